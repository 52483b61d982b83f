section
-- ===== PART A: goes FIRST, ahead of the names: the tables' words, and 'selects' of the private methods out of them =====
/-- a private method of a class that the tables say can be made, by its rows of tables_1 -/
def lw_okq (q : MethodName × Nat) : Prop := (q.1.cls ≠ "java/lang/invoke/MethodHandle" ∧ q.1.cls ≠ "java/lang/invoke/VarHandle") ∧ Cond.instantiable q.1.cls q.2 ∈ tables_1 ∧ Cond.privateMethod q.1 ∈ tables_1 ∧ Cond.instanceMethod q.1 ∈ tables_1
theorem lw_p0 : lw_okq (⟨"java/lang/Throwable", "fillInStackTrace", "(I)Ljava/lang/Throwable;"⟩, 6) := ⟨⟨by decide +kernel, by decide +kernel⟩, List.mem_of_getElem? (i := 296) (by decide +kernel), List.mem_of_getElem? (i := 294) (by decide +kernel), List.mem_of_getElem? (i := 295) (by decide +kernel)⟩
theorem lw_p1 : lw_okq (⟨"HatReservations", "requireGuest", "(I)V"⟩, 10) := ⟨⟨by decide +kernel, by decide +kernel⟩, List.mem_of_getElem? (i := 34) (by decide +kernel), List.mem_of_getElem? (i := 459) (by decide +kernel), List.mem_of_getElem? (i := 460) (by decide +kernel)⟩
theorem lw_p2 : lw_okq (⟨"HatReservations$Hall", "loseChair", "(II)J"⟩, 15) := ⟨⟨by decide +kernel, by decide +kernel⟩, List.mem_of_getElem? (i := 42) (by decide +kernel), List.mem_of_getElem? (i := 512) (by decide +kernel), List.mem_of_getElem? (i := 513) (by decide +kernel)⟩
theorem lw_p3 : lw_okq (⟨"HatReservations$Hall", "liftHat", "(I)J"⟩, 15) := ⟨⟨by decide +kernel, by decide +kernel⟩, List.mem_of_getElem? (i := 42) (by decide +kernel), List.mem_of_getElem? (i := 516) (by decide +kernel), List.mem_of_getElem? (i := 517) (by decide +kernel)⟩
theorem lw_p4 : lw_okq (⟨"HatReservations$Hall", "offerChairs", "(J)V"⟩, 15) := ⟨⟨by decide +kernel, by decide +kernel⟩, List.mem_of_getElem? (i := 42) (by decide +kernel), List.mem_of_getElem? (i := 522) (by decide +kernel), List.mem_of_getElem? (i := 523) (by decide +kernel)⟩
theorem lw_p5 : lw_okq (⟨"HatReservations$Hall", "offerChair", "(I)V"⟩, 15) := ⟨⟨by decide +kernel, by decide +kernel⟩, List.mem_of_getElem? (i := 42) (by decide +kernel), List.mem_of_getElem? (i := 526) (by decide +kernel), List.mem_of_getElem? (i := 527) (by decide +kernel)⟩
theorem lw_p6 : lw_okq (⟨"HatReservations$CommandText", "readCommand", "(I)Z"⟩, 7) := ⟨⟨by decide +kernel, by decide +kernel⟩, List.mem_of_getElem? (i := 126) (by decide +kernel), List.mem_of_getElem? (i := 582) (by decide +kernel), List.mem_of_getElem? (i := 583) (by decide +kernel)⟩
theorem lw_p7 : lw_okq (⟨"HatReservations$CommandText", "readKeyword", "()LHatReservations$Command;"⟩, 7) := ⟨⟨by decide +kernel, by decide +kernel⟩, List.mem_of_getElem? (i := 126) (by decide +kernel), List.mem_of_getElem? (i := 586) (by decide +kernel), List.mem_of_getElem? (i := 587) (by decide +kernel)⟩
theorem lw_p8 : lw_okq (⟨"HatReservations$CommandText", "countMatched", "(Ljava/lang/String;I)I"⟩, 7) := ⟨⟨by decide +kernel, by decide +kernel⟩, List.mem_of_getElem? (i := 126) (by decide +kernel), List.mem_of_getElem? (i := 592) (by decide +kernel), List.mem_of_getElem? (i := 593) (by decide +kernel)⟩
theorem lw_p9 : lw_okq (⟨"HatReservations$CommandText", "readNumber", "(I)I"⟩, 7) := ⟨⟨by decide +kernel, by decide +kernel⟩, List.mem_of_getElem? (i := 126) (by decide +kernel), List.mem_of_getElem? (i := 645) (by decide +kernel), List.mem_of_getElem? (i := 646) (by decide +kernel)⟩
theorem lw_p10 : lw_okq (⟨"HatReservations$CommandText", "standsOnDigit", "()Z"⟩, 7) := ⟨⟨by decide +kernel, by decide +kernel⟩, List.mem_of_getElem? (i := 126) (by decide +kernel), List.mem_of_getElem? (i := 649) (by decide +kernel), List.mem_of_getElem? (i := 650) (by decide +kernel)⟩
theorem lw_p11 : lw_okq (⟨"HatReservations$CommandText", "readSign", "(C)Z"⟩, 7) := ⟨⟨by decide +kernel, by decide +kernel⟩, List.mem_of_getElem? (i := 126) (by decide +kernel), List.mem_of_getElem? (i := 653) (by decide +kernel), List.mem_of_getElem? (i := 654) (by decide +kernel)⟩
theorem lw_p12 : lw_okq (⟨"HatReservations", "requirePlacedHat", "(I)V"⟩, 10) := ⟨⟨by decide +kernel, by decide +kernel⟩, List.mem_of_getElem? (i := 34) (by decide +kernel), List.mem_of_getElem? (i := 887) (by decide +kernel), List.mem_of_getElem? (i := 888) (by decide +kernel)⟩
theorem lw_p13 : lw_okq (⟨"HatReservations", "requireLeftCoat", "(I)V"⟩, 10) := ⟨⟨by decide +kernel, by decide +kernel⟩, List.mem_of_getElem? (i := 34) (by decide +kernel), List.mem_of_getElem? (i := 908) (by decide +kernel), List.mem_of_getElem? (i := 909) (by decide +kernel)⟩
theorem lw_p14 : lw_okq (⟨"HatReservations$Hall", "countBefore", "(I)I"⟩, 15) := ⟨⟨by decide +kernel, by decide +kernel⟩, List.mem_of_getElem? (i := 42) (by decide +kernel), List.mem_of_getElem? (i := 936) (by decide +kernel), List.mem_of_getElem? (i := 937) (by decide +kernel)⟩
theorem lw_p15 : lw_okq (⟨"HatReservations$Hall", "precedes", "(II)Z"⟩, 15) := ⟨⟨by decide +kernel, by decide +kernel⟩, List.mem_of_getElem? (i := 42) (by decide +kernel), List.mem_of_getElem? (i := 940) (by decide +kernel), List.mem_of_getElem? (i := 941) (by decide +kernel)⟩
def lw_privs_1 : List (MethodName × Nat) := [(⟨"java/lang/Throwable", "fillInStackTrace", "(I)Ljava/lang/Throwable;"⟩, 6), (⟨"HatReservations", "requireGuest", "(I)V"⟩, 10), (⟨"HatReservations$Hall", "loseChair", "(II)J"⟩, 15), (⟨"HatReservations$Hall", "liftHat", "(I)J"⟩, 15), (⟨"HatReservations$Hall", "offerChairs", "(J)V"⟩, 15), (⟨"HatReservations$Hall", "offerChair", "(I)V"⟩, 15), (⟨"HatReservations$CommandText", "readCommand", "(I)Z"⟩, 7), (⟨"HatReservations$CommandText", "readKeyword", "()LHatReservations$Command;"⟩, 7), (⟨"HatReservations$CommandText", "countMatched", "(Ljava/lang/String;I)I"⟩, 7), (⟨"HatReservations$CommandText", "readNumber", "(I)I"⟩, 7), (⟨"HatReservations$CommandText", "standsOnDigit", "()Z"⟩, 7), (⟨"HatReservations$CommandText", "readSign", "(C)Z"⟩, 7), (⟨"HatReservations", "requirePlacedHat", "(I)V"⟩, 10), (⟨"HatReservations", "requireLeftCoat", "(I)V"⟩, 10), (⟨"HatReservations$Hall", "countBefore", "(I)I"⟩, 15), (⟨"HatReservations$Hall", "precedes", "(II)Z"⟩, 15)]
theorem lw_r1 : ∀ q ∈ lw_privs_1, lw_okq q := List.forall_mem_cons.mpr ⟨lw_p0, List.forall_mem_cons.mpr ⟨lw_p1, List.forall_mem_cons.mpr ⟨lw_p2, List.forall_mem_cons.mpr ⟨lw_p3, List.forall_mem_cons.mpr ⟨lw_p4, List.forall_mem_cons.mpr ⟨lw_p5, List.forall_mem_cons.mpr ⟨lw_p6, List.forall_mem_cons.mpr ⟨lw_p7, List.forall_mem_cons.mpr ⟨lw_p8, List.forall_mem_cons.mpr ⟨lw_p9, List.forall_mem_cons.mpr ⟨lw_p10, List.forall_mem_cons.mpr ⟨lw_p11, List.forall_mem_cons.mpr ⟨lw_p12, List.forall_mem_cons.mpr ⟨lw_p13, List.forall_mem_cons.mpr ⟨lw_p14, List.forall_mem_cons.mpr ⟨lw_p15, fun _ h => absurd h List.not_mem_nil⟩⟩⟩⟩⟩⟩⟩⟩⟩⟩⟩⟩⟩⟩⟩⟩
def lw_privs : List (MethodName × Nat) := lw_privs_1
def lw_tbl : List Cond := k2_sels lw_privs ++ tables_1
theorem lw_privs_ok : ∀ q ∈ lw_privs, lw_okq q := lw_r1
/-- the streams that the claim lets the run draw from -/
abbrev lw_cs : List Choice := [Jvm.Choice.named "NaN.bits"]
theorem lw_bits : nanBits ∈ lw_cs := by first | decide | exact List.mem_cons_self | simp [lw_cs, nanBits]
-- ===== end of PART A; then your names; then what follows =====
/-! ===== BEGIN words of one list among another's, by their places ===== -/
theorem goodIn_r {big : List Cond} (ws : List Cond) (ps : List Nat) (hp : ws = ps.filterMap (fun i => big[i]?)) (h : ws.all goodWord = true) : GoodIn big ws := by
  intro w hw
  have h1 := List.all_eq_true.mp h w hw
  rw [hp] at hw
  obtain ⟨i, -, hi⟩ := List.mem_filterMap.mp hw
  have hm : w ∈ big := by first | exact List.mem_of_getElem? hi | exact List.getElem?_mem hi
  exact ⟨hm, good_of_word h1⟩
theorem goodIn_app {big a b : List Cond} (ha : GoodIn big a) (hb : GoodIn big b) : GoodIn big (a ++ b) := fun w h => (List.mem_append.mp h).elim (ha w) (hb w)
theorem goodIn_ca {big a b : List Cond} {c : Cond} (ha : GoodIn big (c :: a)) (hb : GoodIn big b) : GoodIn big (c :: (a ++ b)) := fun w h => (List.mem_cons.mp h).elim (fun e => ha w (List.mem_cons.mpr (Or.inl e))) (fun h => (List.mem_append.mp h).elim (fun h => ha w (List.mem_cons.mpr (Or.inr h))) (hb w))
theorem goodIn_sub {big ws : List Cond} (hm : ∀ w ∈ ws, w ∈ big) (h : ws.all goodWord = true) : GoodIn big ws := fun w hw => ⟨hm w hw, good_of_word (List.all_eq_true.mp h w hw)⟩
/-! ===== END ===== -/

/-! ===== BEGIN exceptions that leave a method, and their catching by the caller (launches without stack traces) ===== -/
section VXA
/-! The laws vx_back, vx_callV, vx_callS, vx_callSW, vx_throw0, vx_throwS follow proofs of the library, with one case more: JvmDerived/Free/Laws.lean (Back.of_free), Shelf42/LK1.lean (callV, callS), Shelf/KitTraced.lean (throwNew0V, throwNewS). -/
/-- where a method has thrown q: the class by its name, the cell, what was written, the world -/
def vx_T (XC : String → State → State → Prop) (st : State) (q : Addr) (t : State) (mc ms : Nat) (free : Addr → Prop) : Prop :=
  ∃ (E : String) (ce : Cell) (L : List Loc), XC E st t ∧ t.heap[q]? = some ce ∧ ce.vm = .none ∧ st.vm.findClass E = some ce.cls ∧ st.WarmedH t.vm ∧ st.sameButNew ({ t with vm := st.vm } : State) L mc ms ∧ ∀ z ∈ L, free z.base
def vx_Q (Qc : Array Value → State → Outcome → State → Prop) (XC : String → State → State → Prop) (mc ms : Nat) (free : Addr → Prop) : Array Value → State → Outcome → State → Prop := fun a st o t =>
  (Qc a st o t ∧ ∃ L, FrameEnd st o t L mc ms ∧ ∀ q ∈ L, free q.base) ∨ ∃ q, o = .threw q ∧ vx_T XC st q t mc ms free
/-- a callee that returns or throws -/
def vx_Met (l : Launch) (y : MethodName) (ws : List Cond) (rm : Room) (Pc : Array Value → State → Prop) (Qc : Array Value → State → Outcome → State → Prop) (XC : String → State → State → Prop) (mc ms : Nat) (free : Addr → Prop) : Prop :=
  MetFree l y (headSpec ws rm) Pc (fun _ _ _ _ _ => True) (vx_Q Qc XC mc ms free)
def vx_Post (XC : String → State → State → Prop) (mc ms : Nat) (free : Addr → Prop) : Pt → Array Value → Addr → Pt → Prop := fun A a q B =>
  ∃ (g : JFrame) (mk : MethodId) (t : State) (L : List Loc) (E : String) (ce : Cell), B.U.heap = t.heap ∧ B.U.vm = t.vm ∧ XC E (A.U.calling g mk a) t ∧ t.heap[q]? = some ce ∧ ce.vm = .none ∧ A.U.vm.findClass E = some ce.cls ∧ B.locs = A.locs ++ L ∧ (∀ z ∈ L, free z.base) ∧ B.cells = A.cells + mc ∧ B.slots = A.slots + ms
def vx_Back (l : Launch) (R : Room) (p : Program) (e : Env) (below : List Frame) (s : State) (sargs : Array Value) (y : MethodName) (len W9 : Nat)
    (Pre : Pt → Array Value → Prop) (Post : Pt → Array Value → Option Value → Pt → Prop) (PostX : Pt → Array Value → Addr → Pt → Prop) : Prop :=
  ∀ (m : MethodId) (meth : Method) (c : Code) (A : Pt) (g : JFrame) (ig : Instr) (mk : MethodId) (a : Array Value),
    Stand p l e R s m sargs below meth c A.U A.locs A.cells A.slots → g.method = m → g.locals.size = c.maxLocals → decode c.code g.pc = .ok (ig, len) →
    2 * g.monitorRoom + (g.stack.map fun v => v.category).sum ≤ W9 → A.U.methodNamed? y = some mk → Pre A a →
    (∃ (v : Option Value) (B : Pt), Stand p l e R s m sargs below meth c B.U B.locs B.cells B.slots ∧ Post A a v B ∧
      Steps p.tables e below (doInvoke e (A.U.setTop g) [] mk a).1 (B.U.setTop { g with pc := g.pc + len, stack := v.toList ++ g.stack })) ∨
    (∃ (q : Addr) (B : Pt), Stand p l e R s m sargs below meth c B.U B.locs B.cells B.slots ∧ PostX A a q B ∧
      Steps p.tables e below (doInvoke e (A.U.setTop g) [] mk a).1 ((B.U.setTop g).pushFrame (.throwing q)))
section Payer
variable {l : Launch} {R : Room} {p : Program} {e : Env} {below : List Frame} {s : State} {sargs : Array Value} {y : MethodName} {len W9 : Nat}
theorem vx_back {ws : List Cond} {rm : Room} {Pc : Array Value → State → Prop} {Qc : Array Value → State → Outcome → State → Prop} {XC : String → State → State → Prop} {mc ms : Nat} {free : Addr → Prop} {bytes : ByteArray} {maxL : Nat} {ret : Option FieldType}
    (hM : vx_Met l y ws rm Pc Qc XC mc ms free) (hblind : FrameBlind Pc) (hrc : rm.cells = mc) (hrs : rm.slots = ms)
    (hframes : rm.frames + 1 ≤ R.frames) (hlocals : W9 + (maxL + 11) + rm.locals ≤ R.locals)
    (hws : ∀ w ∈ ws, ∀ a' U, s.WarmedH U.vm → w.before a' U = true) (hcode : Cond.code y bytes maxL ret ∈ ws) (hinit : ∀ a' U, s.WarmedH U.vm → (Cond.initialized y.cls).before a' U = true) :
    vx_Back l R p e below s sargs y len W9 (PreOf R mc ms Pc) (PostOf Qc mc ms free) (vx_Post XC mc ms free) := by
  intro m meth c A g ig mk a X hg hsize hdg hW hn hp
  have h1 : (headSpec ws rm).pre.before a A.U = true := atoms_intro fun w hw => hws w hw _ _ X.warmed
  have h2 : (Cond.code y bytes maxL ret).before a A.U = true := hws _ hcode _ _ X.warmed
  have h3 : (Cond.initialized y.cls).before a A.U = true := hinit _ _ X.warmed
  have h4 : A.cells + (headSpec ws rm).room.cells ≤ R.cells := by rw [show (headSpec ws rm).room.cells = mc from hrc]; exact hp.1
  have h5 : A.slots + (headSpec ws rm).room.slots ≤ R.slots := by rw [show (headSpec ws rm).room.slots = ms from hrs]; exact hp.2.1
  have hPc : Pc a (A.U.calling g mk a) := hblind _ _ _ _ hp.2.2
  obtain ⟨U, Ls, c0, s0⟩ := A
  dsimp only [Pt.U, Pt.locs, Pt.cells, Pt.slots] at h1 h2 h3 h4 h5 X hn hPc ⊢
  obtain ⟨methY, cY, hmY, hcY, -, hlY, -, -, -, -⟩ := Cond.code_spec hn h2
  obtain ⟨kY, hkY, -⟩ := className_of_methodNamed hn
  have hinitY : kY.init = .initialized := Cond.initialized_spec (findClass_of_methodNamed hn) hkY h3
  have h : At U g.method c below := by rw [hg]; exact X.here
  have hlocals9 : W9 + (maxL + 11) + (headSpec ws rm).room.locals ≤ R.locals := hlocals
  have happ : (headSpec ws rm).appliesLoose y e.platform (U.calling g mk a) = true :=
    Spec.appliesLoose_calling (g := g) h hdg hn hkY hinitY
      (X.room_calling (g := g) (R' := (headSpec ws rm).room) hsize hmY hcY hframes (by rw [hlY]; omega) h4 h5) h1
  obtain ⟨mid, hmid⟩ := h.above
  have hfr : (U.setTop g).frames = (.java g :: mid) ++ below := by rw [State.frames_setTop' g h.top, hmid]; rfl
  obtain ⟨o, s₂, hsteps, -, hend, hq⟩ := Steps.callFree hM p X.admits X.cas X.clock (acts := []) hfr happ hPc trivial
  have hq' : vx_Q Qc XC mc ms free a (U.calling g mk a) o s₂ := hq
  rw [State.frames_setTop' g h.top] at hend
  obtain ⟨g₀, hg0⟩ := Option.isSome_iff_exists.mp h.top
  obtain ⟨r, hr⟩ := State.topJava?_eq_some.mp hg0
  have hr' : (({ U with heap := s₂.heap, slotsUsed := s₂.slotsUsed } : State).setVm s₂.vm).frames = .java g₀ :: r := hr
  rcases hq' with ⟨hqc, L, hfe, hL⟩ | ⟨q, rfl, E, ce, L, hx, hce, hcv, hcl, hW₂, hsm, hL⟩
  · obtain ⟨⟨v, rfl⟩, hW₂, e2, q2, q3, q4, q5, q6⟩ := id hfe
    have e3 : s₂ = ({ (U.calling g mk a).setFrames s₂.frames with heap := s₂.heap, slotsUsed := s₂.slotsUsed } : State).setVm s₂.vm := by
      have : s₂ = ({ s₂ with vm := (U.calling g mk a).vm } : State).setVm s₂.vm := rfl
      rw [e2] at this
      exact this
    obtain ⟨c₂, i₂, len₂, hc₂, hd₂, hf₂⟩ := hend
    have hW' : U.WarmedH s₂.vm := hW₂
    have hcc : c₂ = c := by
      have h1 : s₂.code? g.method = U.code? g.method := by
        rw [State.code?_eq, State.code?_eq, hW'.alike.method?]
      exact Option.some.inj (hc₂.symm.trans (h1.trans h.code))
    subst hcc
    have hlen : len₂ = len := by rw [hdg] at hd₂; cases hd₂; rfl
    subst hlen
    have hs₂ : s₂ = (({ U with heap := s₂.heap, slotsUsed := s₂.slotsUsed } : State).setVm s₂.vm).setTop { g with pc := g.pc + len₂, stack := v.toList ++ g.stack } := by
      refine e3.trans ?_
      rw [hf₂, State.calling_eq h.top, State.setFrames_setFrames, State.setTop_of_frames _ hr', hr]
      rfl
    have hsame : U.sameButNew ({ U with heap := s₂.heap, slotsUsed := s₂.slotsUsed } : State) L mc ms := by
      refine ⟨?_, q2, q3, q4, q5, q6⟩
      obtain ⟨t, ht, -⟩ := State.frames_cons hr
      show ({ U with heap := s₂.heap, slotsUsed := s₂.slotsUsed } : State) = { U.setFrames U.frames with heap := s₂.heap, slotsUsed := s₂.slotsUsed }
      rw [State.setFrames_self ht]
    subst hg
    refine Or.inl ⟨v, ⟨(({ U with heap := s₂.heap, slotsUsed := s₂.slotsUsed } : State).setVm s₂.vm), Ls ++ L, c0 + mc, s0 + ms⟩,
      ⟨X.admits, X.cas, X.clock, X.frames, X.room, X.hears, X.method, X.code, (X.here.setHeapUsed s₂.heap s₂.slotsUsed).setVm hW'.alike, X.tail, State.WarmedH.trans X.warmed hW', X.limits, X.bytes, X.same.trans (hsame.setVm s.vm)⟩,
      ⟨g, mk, s₂, L, rfl, rfl, hqc, rfl, hL, rfl, rfl⟩, ?_⟩
    show Steps p.tables e below _ ((({ U with heap := s₂.heap, slotsUsed := s₂.slotsUsed } : State).setVm s₂.vm).setTop { g with pc := g.pc + len₂, stack := v.toList ++ g.stack })
    rw [← hs₂]
    exact hsteps
  · obtain ⟨e2, q2, q3, q4, q5, q6⟩ := id hsm
    have e3 : s₂ = ({ (U.calling g mk a).setFrames s₂.frames with heap := s₂.heap, slotsUsed := s₂.slotsUsed } : State).setVm s₂.vm := by
      have : s₂ = ({ s₂ with vm := (U.calling g mk a).vm } : State).setVm s₂.vm := rfl
      rw [e2] at this
      exact this
    have hf₂ : s₂.frames = .throwing q :: .java g :: U.frames.tail := hend
    have hW' : U.WarmedH s₂.vm := hW₂
    have hs₂ : s₂ = ((({ U with heap := s₂.heap, slotsUsed := s₂.slotsUsed } : State).setVm s₂.vm).setTop g).pushFrame (.throwing q) := by
      refine e3.trans ?_
      rw [hf₂, State.calling_eq h.top, State.setFrames_setFrames, State.pushFrame, State.frames_setTop _ hr', State.setTop_of_frames _ hr', State.setFrames_setFrames, hr]
      rfl
    have hsame : U.sameButNew ({ U with heap := s₂.heap, slotsUsed := s₂.slotsUsed } : State) L mc ms := by
      refine ⟨?_, q2, q3, q4, q5, q6⟩
      obtain ⟨t, ht, -⟩ := State.frames_cons hr
      show ({ U with heap := s₂.heap, slotsUsed := s₂.slotsUsed } : State) = { U.setFrames U.frames with heap := s₂.heap, slotsUsed := s₂.slotsUsed }
      rw [State.setFrames_self ht]
    subst hg
    refine Or.inr ⟨q, ⟨(({ U with heap := s₂.heap, slotsUsed := s₂.slotsUsed } : State).setVm s₂.vm), Ls ++ L, c0 + mc, s0 + ms⟩,
      ⟨X.admits, X.cas, X.clock, X.frames, X.room, X.hears, X.method, X.code, (X.here.setHeapUsed s₂.heap s₂.slotsUsed).setVm hW'.alike, X.tail, State.WarmedH.trans X.warmed hW', X.limits, X.bytes, X.same.trans (hsame.setVm s.vm)⟩,
      ⟨g, mk, s₂, L, E, ce, rfl, rfl, hx, hce, hcv, hcl, rfl, hL, rfl, rfl⟩, ?_⟩
    show Steps p.tables e below _ (((({ U with heap := s₂.heap, slotsUsed := s₂.slotsUsed } : State).setVm s₂.vm).setTop g).pushFrame (.throwing q))
    rw [← hs₂]
    exact hsteps
end Payer
section Calls
variable {p : Program} {l : Launch} {e : Env} {R : Room} {s : State} {m : MethodId} {args : Array Value} {below : List Frame} {meth : Method} {c : Code} {T : State} {locs : List Loc} {cells slots : Nat}
theorem vx_callV (X : Stand p l e R s m args below meth c T locs cells slots) (hexec : p.tables.exec = Jvm.exec) {own C : String} {index : Nat} {y : MethodName} {bytes : ByteArray} {maxL : Nat} {ret : Option FieldType}
    (hown : s.vm.findClass own = some m.cls) (hlink : (Cond.methodLink own index y).before args s = true) (hinst : (Cond.instanceMethod y).before args s = true) (hsel : (Cond.selects C y y).before args s = true)
    (hcode : (Cond.code y bytes maxL ret).before args s = true) (hy : y.cls ≠ "java/lang/invoke/MethodHandle" ∧ y.cls ≠ "java/lang/invoke/VarHandle")
    {W9 : Nat} {Pre : Pt → Array Value → Prop} {Post : Pt → Array Value → Option Value → Pt → Prop} {PostX : Pt → Array Value → Addr → Pt → Prop} (hK : vx_Back l R p e below s args y 3 W9 Pre Post PostX)
    {b : Addr} {cellB : Cell} (hcell : T.heap[b]? = some cellB) (hobj : cellB.vm.isStatics = false) (hcls : s.vm.findClass C = some cellB.cls)
    {g : JFrame} (hg : g.method = m) (hsize : g.locals.size = c.maxLocals) {argsL rest : List Value} (hlen : ∀ sig, parseMethodDescriptor y.desc = some sig → argsL.length = sig.parameters.length)
    (hstack : g.stack = argsL.reverse ++ .ref b :: rest) (hW : 2 * g.monitorRoom + (rest.map fun v => v.category).sum ≤ W9) (hdg : decode c.code g.pc = .ok (.invokevirtual index, 3))
    (hpre : ∀ vm₁, s.WarmedH vm₁ → Pre ⟨T.setVm vm₁, locs, cells, slots⟩ (Value.ref b :: argsL).toArray) :
    (∃ (v : Option Value) (vm₁ : Vm) (B : Pt), s.WarmedH vm₁ ∧ Stand p l e R s m args below meth c B.U B.locs B.cells B.slots ∧ Post ⟨T.setVm vm₁, locs, cells, slots⟩ (Value.ref b :: argsL).toArray v B ∧
      ∀ target, Steps p.tables e below (B.U.setTop { g with pc := g.pc + 3, stack := v.toList ++ rest }) target → Steps p.tables e below (T.setTop g) target) ∨
    (∃ (q : Addr) (vm₁ : Vm) (B : Pt), s.WarmedH vm₁ ∧ Stand p l e R s m args below meth c B.U B.locs B.cells B.slots ∧ PostX ⟨T.setVm vm₁, locs, cells, slots⟩ (Value.ref b :: argsL).toArray q B ∧
      Steps p.tables e below (T.setTop g) ((B.U.setTop { g with stack := rest }).pushFrame (.throwing q))) := by
  obtain ⟨mk, methM, hnamed, hmethM, hstM, habM⟩ := Cond.instanceMethod_spec hinst
  obtain ⟨methM', cM, hmethM', -, -, -, -, -, -, hsigM⟩ := Cond.code_spec hnamed hcode
  cases hmethM.symm.trans hmethM'
  obtain ⟨c2, r2, m2, q1, q2, q3, q4, kP, hkP, hkPi⟩ := Cond.selects_spec hsel
  cases hcls.symm.trans q1
  cases (State.methodFound?_of_named hnamed hy).symm.trans q2
  cases hnamed.symm.trans q3
  have hselP : selectMethod e.platform s.vm cellB.cls mk = .method mk := by rw [Launch.admits_selectMethod X.admits]; exact q4
  obtain ⟨vm₁, X₁, hstep₁⟩ := X.invokevirtual hexec hown hlink hnamed hmethM hstM hkP hkPi hy (a := b) (cell := cellB) hcell
    (fun z h => by rw [h] at hobj; cases hobj) hselP hmethM habM hkP hkPi (g := g) hg (argsL := argsL) (rest := rest) (hlen _ hsigM) hstack hdg
  rcases hK m meth c ⟨T.setVm vm₁, locs, cells, slots⟩ { g with stack := rest } (.invokevirtual index) mk (Value.ref b :: argsL).toArray X₁ hg hsize hdg hW (X₁.named hnamed) (hpre vm₁ X₁.warmed) with ⟨v, B, X', hpost, hsteps⟩ | ⟨q, B, X', hpost, hsteps⟩
  · exact Or.inl ⟨v, vm₁, B, X₁.warmed, X', hpost, fun target h => hstep₁ _ fun acts => by rw [doInvoke_state]; exact hsteps.trans h⟩
  · exact Or.inr ⟨q, vm₁, B, X₁.warmed, X', hpost, hstep₁ _ fun acts => by rw [doInvoke_state]; exact hsteps⟩
theorem vx_callS (X : Stand p l e R s m args below meth c T locs cells slots) (hexec : p.tables.exec = Jvm.exec) {own : String} {index : Nat} {y : MethodName} {bytes : ByteArray} {maxL : Nat} {ret : Option FieldType}
    (hown : s.vm.findClass own = some m.cls) (hlink : (Cond.methodLink own index y).before args s = true) (hstat : (Cond.static y).before args s = true) (hinit : (Cond.initialized y.cls).before args s = true)
    (hcode : (Cond.code y bytes maxL ret).before args s = true) (hy : y.cls ≠ "java/lang/invoke/MethodHandle" ∧ y.cls ≠ "java/lang/invoke/VarHandle")
    {W9 : Nat} {Pre : Pt → Array Value → Prop} {Post : Pt → Array Value → Option Value → Pt → Prop} {PostX : Pt → Array Value → Addr → Pt → Prop} (hK : vx_Back l R p e below s args y 3 W9 Pre Post PostX)
    {g : JFrame} (hg : g.method = m) (hsize : g.locals.size = c.maxLocals) {argsL rest : List Value} (hlen : ∀ sig, parseMethodDescriptor y.desc = some sig → argsL.length = sig.parameters.length)
    (hstack : g.stack = argsL.reverse ++ rest) (hW : 2 * g.monitorRoom + (rest.map fun v => v.category).sum ≤ W9) (hdg : decode c.code g.pc = .ok (.invokestatic index, 3))
    (hpre : ∀ vm₁, s.WarmedH vm₁ → Pre ⟨T.setVm vm₁, locs, cells, slots⟩ argsL.toArray) :
    (∃ (v : Option Value) (vm₁ : Vm) (B : Pt), s.WarmedH vm₁ ∧ Stand p l e R s m args below meth c B.U B.locs B.cells B.slots ∧ Post ⟨T.setVm vm₁, locs, cells, slots⟩ argsL.toArray v B ∧
      ∀ target, Steps p.tables e below (B.U.setTop { g with pc := g.pc + 3, stack := v.toList ++ rest }) target → Steps p.tables e below (T.setTop g) target) ∨
    (∃ (q : Addr) (vm₁ : Vm) (B : Pt), s.WarmedH vm₁ ∧ Stand p l e R s m args below meth c B.U B.locs B.cells B.slots ∧ PostX ⟨T.setVm vm₁, locs, cells, slots⟩ argsL.toArray q B ∧
      Steps p.tables e below (T.setTop g) ((B.U.setTop { g with stack := rest }).pushFrame (.throwing q))) := by
  obtain ⟨mk, hnamed⟩ := Cond.code_named hcode
  obtain ⟨methM, cM, hmethM, -, -, -, -, -, -, hsigM⟩ := Cond.code_spec hnamed hcode
  have hstatic : methM.isStatic = true := Cond.static_spec hnamed hmethM hstat
  obtain ⟨kP, hkP, -⟩ := className_of_methodNamed hnamed
  have hinitP : kP.init = .initialized := Cond.initialized_spec (findClass_of_methodNamed hnamed) hkP hinit
  obtain ⟨vm₁, X₁, hstep₁⟩ := X.invokestatic hexec hown hlink hnamed hmethM hstatic hkP hinitP hy (g := g) hg (argsL := argsL) (rest := rest) (hlen _ hsigM) hstack hdg
  rcases hK m meth c ⟨T.setVm vm₁, locs, cells, slots⟩ { g with stack := rest } (.invokestatic index) mk argsL.toArray X₁ hg hsize hdg hW (X₁.named hnamed) (hpre vm₁ X₁.warmed) with ⟨v, B, X', hpost, hsteps⟩ | ⟨q, B, X', hpost, hsteps⟩
  · exact Or.inl ⟨v, vm₁, B, X₁.warmed, X', hpost, fun target h => hstep₁ _ fun acts => by rw [doInvoke_state]; exact hsteps.trans h⟩
  · exact Or.inr ⟨q, vm₁, B, X₁.warmed, X', hpost, hstep₁ _ fun acts => by rw [doInvoke_state]; exact hsteps⟩
end Calls
theorem vx_cls {s : State} {T : State} {vm₁ : Vm} {E : String} {k : ClassId} (hW : s.WarmedH vm₁) (h : (T.setVm vm₁).vm.findClass E = some k) : s.vm.findClass E = some k := by
  have h1 : vm₁.findClass E = some k := h
  rw [hW.alike.findClass] at h1
  exact h1
/-- the method's frame g, with q thrown over it -/
def vx_W (p : Program) (l : Launch) (e : Env) (R : Room) (s : State) (m : MethodId) (args : Array Value) (below : List Frame) (meth : Method) (c : Code) (H : Heap) (locs : List Loc) (cells slots : Nat) (Q : State → Prop) (g : JFrame) (q : Addr) : Prop :=
  ∀ T : State, T.heap = H → Stand p l e R s m args below meth c T locs cells slots → ∃ t, Steps p.tables e below ((T.setTop g).pushFrame (.throwing q)) t ∧ Q t
def vx_Run (p : Program) (l : Launch) (e : Env) (R : Room) (s : State) (m : MethodId) (args : Array Value) (below : List Frame) (meth : Method) (c : Code) (H : Heap) (locs : List Loc) (cells slots mc ms : Nat) (g : JFrame) (rest : List Value) (Qa : State → Outcome → State → Prop) (XC : String → State → State → Prop) (free : Addr → Prop) : Prop :=
  ∀ T : State, T.heap = H → Stand p l e R s m args below meth c T locs cells slots →
    (∃ (v : Option Value) (st₀ t T' : State) (L : List Loc), st₀.heap = H ∧ Stand p l e R s m args below meth c T' (locs ++ L) (cells + mc) (slots + ms) ∧ (∀ q ∈ L, free q.base) ∧ T'.heap = t.heap ∧ T'.vm = t.vm ∧ Qa st₀ (.returned v) t ∧
      Goes p e below T g T' { g with pc := g.pc + 3, stack := v.toList ++ rest }) ∨
    (∃ (q : Addr) (st₀ t T' : State) (L : List Loc) (E : String) (ce : Cell), st₀.heap = H ∧ Stand p l e R s m args below meth c T' (locs ++ L) (cells + mc) (slots + ms) ∧ (∀ z ∈ L, free z.base) ∧ T'.heap = t.heap ∧ T'.vm = t.vm ∧ XC E st₀ t ∧ t.heap[q]? = some ce ∧ ce.vm = .none ∧ s.vm.findClass E = some ce.cls ∧
      Steps p.tables e below (T.setTop g) ((T'.setTop { g with stack := rest }).pushFrame (.throwing q)))
def vx_X {S : Type} (px : S → Prop) (B : String → S → State → Prop) (A : Nat → Prop) : String → State → State → Prop := fun E st t => ∃ u : S, px u ∧ B E u t ∧ va_F A st t
section Runs
variable {p : Program} {l : Launch} {e : Env} {R : Room} {s : State} {m : MethodId} {args : Array Value} {below : List Frame} {meth : Method} {c : Code} {H : Heap} {locs : List Loc} {cells slots : Nat}
variable {y : MethodName} {bytes cc : ByteArray} {maxL nL mc ms n index : Nat} {ret : Option FieldType} {ws : List Cond} {rm : Room} {Pc : Array Value → State → Prop} {Qc : Array Value → State → Outcome → State → Prop} {XC : String → State → State → Prop} {free : Addr → Prop} {Ts : List Cond} {own C : String} {b : Addr} {As rest : List Value} {g : JFrame}
theorem vx_callBack (cb : CallB R s args own index y bytes maxL ret ws rm mc ms n) (hM : vx_Met l y ws rm Pc Qc XC mc ms free) (hbl : FrameBlind Pc) : vx_Back l R p e below s args y 3 8 (PreOf R mc ms Pc) (PostOf Qc mc ms free) (vx_Post XC mc ms free) := by
  obtain ⟨hrc, hrs, hfr, hlo, hws, hcw, -, hini, -⟩ := cb
  exact vx_back (bytes := bytes) (maxL := maxL) (ret := ret) hM hbl hrc hrs hfr hlo hws hcw (fun a' U hW => word_at hW (Or.inl (by first | rfl | simp [Cond.onTables, Cond.keeps, Cond.steady])) hini)
theorem vx_runV (S : CallFix p m c cc nL s args Ts own) (hM : vx_Met l y ws rm Pc Qc XC mc ms free) (cw : CallW R s args own C index y bytes maxL ret ws rm mc ms n) (hp : PreV s H C b Pc As)
    (hg : g.method = m) (hn : As.length = n) (hsize : g.locals.size = nL) (hstack : g.stack = As.reverse ++ .ref b :: rest) (hW : 2 * g.monitorRoom + (rest.map fun v => v.category).sum ≤ 8) (hdg : decode cc g.pc = .ok (.invokevirtual index, 3)) (hf : cells + mc ≤ R.cells ∧ slots + ms ≤ R.slots) :
    vx_Run p l e R s m args below meth c H locs cells slots mc ms g rest (Qc (Value.ref b :: As).toArray) XC free := by
  have hK : vx_Back l R p e below s args y 3 8 (PreOf R mc ms Pc) (PostOf Qc mc ms free) (vx_Post XC mc ms free) := vx_callBack cw.1 hM hp.1
  obtain ⟨⟨-, -, -, -, -, -, hcode, -, hy, hlen, hl⟩, hin, hse⟩ := cw
  obtain ⟨hx, hb, hml, ho, -⟩ := S
  obtain ⟨-, ⟨cellB, hcB, hoB, hclB⟩, hPc⟩ := hp
  intro T hT X
  rcases vx_callV X hx (C := C) (bytes := bytes) (maxL := maxL) (ret := ret) ho hl hin hse hcode hy hK (by rw [hT]; exact hcB) hoB hclB hg (hsize.trans hml.symm) (argsL := As) (rest := rest) (fun sig h => hn.trans (hlen sig h)) hstack hW (by rw [hb]; exact hdg)
    (fun vm₁ hW₁ => ⟨hf.1, hf.2, hPc (T.setVm vm₁) hT hW₁⟩) with ⟨v, vm₁, ⟨U', l2, c2, s2⟩, hW₁, X', ⟨g', mk, t, L, e1, e2, hq, h1, hL, h2, h3⟩, st⟩ | ⟨q, vm₁, ⟨U', l2, c2, s2⟩, hW₁, X', ⟨g', mk, t, L, E, ce, e1, e2, hq, hce, hcv, hcl, h1, hL, h2, h3⟩, st⟩
  · dsimp only [Pt.U, Pt.locs, Pt.cells, Pt.slots] at X' e1 e2 h1 h2 h3 st
    subst h1; subst h2; subst h3
    exact Or.inl ⟨v, (T.setVm vm₁).calling g' mk (Value.ref b :: As).toArray, t, U', L, hT, X', hL, e1, e2, hq, st⟩
  · dsimp only [Pt.U, Pt.locs, Pt.cells, Pt.slots] at X' e1 e2 h1 h2 h3 st hcl
    subst h1; subst h2; subst h3
    exact Or.inr ⟨q, (T.setVm vm₁).calling g' mk (Value.ref b :: As).toArray, t, U', L, E, ce, hT, X', hL, e1, e2, hq, hce, hcv, vx_cls hW₁ hcl, st⟩
theorem vx_runS (S : CallFix p m c cc nL s args Ts own) (hM : vx_Met l y ws rm Pc Qc XC mc ms free) (cw : CallB R s args own index y bytes maxL ret ws rm mc ms n ∧ (Cond.static y).before args s = true) (hp : PreS s H Pc As)
    (hg : g.method = m) (hn : As.length = n) (hsize : g.locals.size = nL) (hstack : g.stack = As.reverse ++ rest) (hW : 2 * g.monitorRoom + (rest.map fun v => v.category).sum ≤ 8) (hdg : decode cc g.pc = .ok (.invokestatic index, 3)) (hf : cells + mc ≤ R.cells ∧ slots + ms ≤ R.slots) :
    vx_Run p l e R s m args below meth c H locs cells slots mc ms g rest (Qc As.toArray) XC free := by
  have hK : vx_Back l R p e below s args y 3 8 (PreOf R mc ms Pc) (PostOf Qc mc ms free) (vx_Post XC mc ms free) := vx_callBack cw.1 hM hp.1
  obtain ⟨⟨-, -, -, -, -, -, hcode, hini, hy, hlen, hl⟩, hstt⟩ := cw
  obtain ⟨hx, hb, hml, ho, -⟩ := S
  intro T hT X
  rcases vx_callS X hx (bytes := bytes) (maxL := maxL) (ret := ret) ho hl hstt hini hcode hy hK hg (hsize.trans hml.symm) (argsL := As) (rest := rest) (fun sig h => hn.trans (hlen sig h)) hstack hW (by rw [hb]; exact hdg)
    (fun vm₁ hW₁ => ⟨hf.1, hf.2, hp.2 (T.setVm vm₁) hT hW₁⟩) with ⟨v, vm₁, ⟨U', l2, c2, s2⟩, hW₁, X', ⟨g', mk, t, L, e1, e2, hq, h1, hL, h2, h3⟩, st⟩ | ⟨q, vm₁, ⟨U', l2, c2, s2⟩, hW₁, X', ⟨g', mk, t, L, E, ce, e1, e2, hq, hce, hcv, hcl, h1, hL, h2, h3⟩, st⟩
  · dsimp only [Pt.U, Pt.locs, Pt.cells, Pt.slots] at X' e1 e2 h1 h2 h3 st
    subst h1; subst h2; subst h3
    exact Or.inl ⟨v, (T.setVm vm₁).calling g' mk As.toArray, t, U', L, hT, X', hL, e1, e2, hq, st⟩
  · dsimp only [Pt.U, Pt.locs, Pt.cells, Pt.slots] at X' e1 e2 h1 h2 h3 st hcl
    subst h1; subst h2; subst h3
    exact Or.inr ⟨q, (T.setVm vm₁).calling g' mk As.toArray, t, U', L, E, ce, hT, X', hL, e1, e2, hq, hce, hcv, vx_cls hW₁ hcl, st⟩
end Runs
section Rows
variable {p : Program} {l : Launch} {e : Env} {R : Room} {s : State} {m : MethodId} {args : Array Value} {below : List Frame} {meth : Method} {c : Code} {H : Heap} {locs : List Loc} {cells slots : Nat} {Q : State → Prop}
variable {mc ms : Nat} {free : Addr → Prop} {A0 A1 : Nat → Prop} {H0 : Heap} {a : Array Value} {pc : Nat} {ls : Array Slot} {st0 rest : List Value}
theorem vx_keep {st₀ t T' : State} {L : List Loc} (h0 : st₀.heap = H) (e1 : T'.heap = t.heap) (hS : va_S A0 H0 H locs) (hA : ∀ q, q < H.size → A1 q → A0 q) (hf : ∀ q, free q → A0 q) (hL : ∀ q ∈ L, free q.base) (hF : va_F A1 st₀ t) :
    H.size ≤ T'.heap.size ∧ (∀ q : Nat, q < H.size → ¬ A1 q → T'.heap[q]? = H[q]?) ∧ va_S A0 H0 T'.heap (locs ++ L) := by
  obtain ⟨hz, hk⟩ := hF
  rw [h0] at hz hk
  exact ⟨by rw [e1]; exact hz, fun q h1 h2 => by rw [e1]; exact hk q h1 h2,
    ⟨Nat.le_trans hS.1 (by rw [e1]; exact hz), fun q h1 h2 => by rw [e1, hk q (Nat.lt_of_lt_of_le h1 hS.1) (fun z => h2 (hA q (Nat.lt_of_lt_of_le h1 hS.1) z))]; exact hS.2.1 q h1 h2, fun q hq => by
      rcases List.mem_append.mp hq with h | h
      · exact hS.2.2 q h
      · exact hf _ (hL q h)⟩⟩
theorem vx_calli {S SX : Type} {post : Int32 → S → Prop} {px : SX → Prop} {B : S → State → Prop} {BX : String → SX → State → Prop} {AX : Nat → Prop} (hr : vx_Run p l e R s m args below meth c H locs cells slots mc ms (F0 m pc ls st0) rest (va_Qi post B A1 a) (vx_X px BX AX) free) (hS : va_S A0 H0 H locs) (hA : ∀ q, q < H.size → A1 q → A0 q) (hf : ∀ q, free q → A0 q) (hAX : ∀ q, q < H.size → AX q → A0 q)
    (kx : ∀ (E : String) (ce : Cell) (q9 : Addr) (u : SX) (t : State) (H1 : Heap) (locs1 : List Loc), t.heap = H1 → s.vm.Alike t.vm → px u → BX E u t → H.size ≤ H1.size → (∀ q : Nat, q < H.size → ¬ AX q → H1[q]? = H[q]?) → va_S A0 H0 H1 locs1 → H1[q9]? = some ce → ce.vm = .none → s.vm.findClass E = some ce.cls → vx_W p l e R s m args below meth c H1 locs1 (cells + mc) (slots + ms) Q (F0 m pc ls rest) q9)
    (kk : ∀ (r : Int32) (u : S) (t : State) (H1 : Heap) (locs1 : List Loc), t.heap = H1 → s.vm.Alike t.vm → post r u → B u t → H.size ≤ H1.size → (∀ q : Nat, q < H.size → ¬ A1 q → H1[q]? = H[q]?) → va_S A0 H0 H1 locs1 → W p l e R s m args below meth c H1 locs1 (cells + mc) (slots + ms) Q (F0 m (pc + 3) ls (.int r :: rest))) : W p l e R s m args below meth c H locs cells slots Q (F0 m pc ls st0) := by
  intro T hT X
  rcases hr T hT X with ⟨v, st₀, t, T', L, h0, X', hL, e1, e2, ⟨⟨r, u, hv, hp, hb⟩, hF⟩, st⟩ | ⟨q, st₀, t, T', L, E, ce, h0, X', hL, e1, e2, ⟨u, hp, hb, hF⟩, hce, hcv, hcl, st⟩
  · cases hv
    obtain ⟨k1, k2, k3⟩ := vx_keep h0 e1 hS hA hf hL hF
    obtain ⟨t2, a1, b1⟩ := kk r u t T'.heap (locs ++ L) e1.symm (by rw [← e2]; exact X'.warmed.alike) hp hb k1 k2 k3 T' rfl X'
    exact ⟨t2, st t2 a1, b1⟩
  · obtain ⟨k1, k2, k3⟩ := vx_keep h0 e1 hS hAX hf hL hF
    obtain ⟨t2, a1, b1⟩ := kx E ce q u t T'.heap (locs ++ L) e1.symm (by rw [← e2]; exact X'.warmed.alike) hp hb k1 k2 k3 (by rw [e1]; exact hce) hcv hcl T' rfl X'
    exact ⟨t2, st.trans a1, b1⟩
theorem vx_calll {S SX : Type} {post : Int64 → S → Prop} {px : SX → Prop} {B : S → State → Prop} {BX : String → SX → State → Prop} {AX : Nat → Prop} (hr : vx_Run p l e R s m args below meth c H locs cells slots mc ms (F0 m pc ls st0) rest (va_Ql post B A1 a) (vx_X px BX AX) free) (hS : va_S A0 H0 H locs) (hA : ∀ q, q < H.size → A1 q → A0 q) (hf : ∀ q, free q → A0 q) (hAX : ∀ q, q < H.size → AX q → A0 q)
    (kx : ∀ (E : String) (ce : Cell) (q9 : Addr) (u : SX) (t : State) (H1 : Heap) (locs1 : List Loc), t.heap = H1 → s.vm.Alike t.vm → px u → BX E u t → H.size ≤ H1.size → (∀ q : Nat, q < H.size → ¬ AX q → H1[q]? = H[q]?) → va_S A0 H0 H1 locs1 → H1[q9]? = some ce → ce.vm = .none → s.vm.findClass E = some ce.cls → vx_W p l e R s m args below meth c H1 locs1 (cells + mc) (slots + ms) Q (F0 m pc ls rest) q9)
    (kk : ∀ (r : Int64) (u : S) (t : State) (H1 : Heap) (locs1 : List Loc), t.heap = H1 → s.vm.Alike t.vm → post r u → B u t → H.size ≤ H1.size → (∀ q : Nat, q < H.size → ¬ A1 q → H1[q]? = H[q]?) → va_S A0 H0 H1 locs1 → W p l e R s m args below meth c H1 locs1 (cells + mc) (slots + ms) Q (F0 m (pc + 3) ls (.long r :: rest))) : W p l e R s m args below meth c H locs cells slots Q (F0 m pc ls st0) := by
  intro T hT X
  rcases hr T hT X with ⟨v, st₀, t, T', L, h0, X', hL, e1, e2, ⟨⟨r, u, hv, hp, hb⟩, hF⟩, st⟩ | ⟨q, st₀, t, T', L, E, ce, h0, X', hL, e1, e2, ⟨u, hp, hb, hF⟩, hce, hcv, hcl, st⟩
  · cases hv
    obtain ⟨k1, k2, k3⟩ := vx_keep h0 e1 hS hA hf hL hF
    obtain ⟨t2, a1, b1⟩ := kk r u t T'.heap (locs ++ L) e1.symm (by rw [← e2]; exact X'.warmed.alike) hp hb k1 k2 k3 T' rfl X'
    exact ⟨t2, st t2 a1, b1⟩
  · obtain ⟨k1, k2, k3⟩ := vx_keep h0 e1 hS hAX hf hL hF
    obtain ⟨t2, a1, b1⟩ := kx E ce q u t T'.heap (locs ++ L) e1.symm (by rw [← e2]; exact X'.warmed.alike) hp hb k1 k2 k3 (by rw [e1]; exact hce) hcv hcl T' rfl X'
    exact ⟨t2, st.trans a1, b1⟩
theorem vx_callf {S SX : Type} {post : UInt32 → S → Prop} {px : SX → Prop} {B : S → State → Prop} {BX : String → SX → State → Prop} {AX : Nat → Prop} (hr : vx_Run p l e R s m args below meth c H locs cells slots mc ms (F0 m pc ls st0) rest (va_Qf post B A1 a) (vx_X px BX AX) free) (hS : va_S A0 H0 H locs) (hA : ∀ q, q < H.size → A1 q → A0 q) (hf : ∀ q, free q → A0 q) (hAX : ∀ q, q < H.size → AX q → A0 q)
    (kx : ∀ (E : String) (ce : Cell) (q9 : Addr) (u : SX) (t : State) (H1 : Heap) (locs1 : List Loc), t.heap = H1 → s.vm.Alike t.vm → px u → BX E u t → H.size ≤ H1.size → (∀ q : Nat, q < H.size → ¬ AX q → H1[q]? = H[q]?) → va_S A0 H0 H1 locs1 → H1[q9]? = some ce → ce.vm = .none → s.vm.findClass E = some ce.cls → vx_W p l e R s m args below meth c H1 locs1 (cells + mc) (slots + ms) Q (F0 m pc ls rest) q9)
    (kk : ∀ (r : UInt32) (u : S) (t : State) (H1 : Heap) (locs1 : List Loc), t.heap = H1 → s.vm.Alike t.vm → post r u → B u t → H.size ≤ H1.size → (∀ q : Nat, q < H.size → ¬ A1 q → H1[q]? = H[q]?) → va_S A0 H0 H1 locs1 → W p l e R s m args below meth c H1 locs1 (cells + mc) (slots + ms) Q (F0 m (pc + 3) ls (.float r :: rest))) : W p l e R s m args below meth c H locs cells slots Q (F0 m pc ls st0) := by
  intro T hT X
  rcases hr T hT X with ⟨v, st₀, t, T', L, h0, X', hL, e1, e2, ⟨⟨r, u, hv, hp, hb⟩, hF⟩, st⟩ | ⟨q, st₀, t, T', L, E, ce, h0, X', hL, e1, e2, ⟨u, hp, hb, hF⟩, hce, hcv, hcl, st⟩
  · cases hv
    obtain ⟨k1, k2, k3⟩ := vx_keep h0 e1 hS hA hf hL hF
    obtain ⟨t2, a1, b1⟩ := kk r u t T'.heap (locs ++ L) e1.symm (by rw [← e2]; exact X'.warmed.alike) hp hb k1 k2 k3 T' rfl X'
    exact ⟨t2, st t2 a1, b1⟩
  · obtain ⟨k1, k2, k3⟩ := vx_keep h0 e1 hS hAX hf hL hF
    obtain ⟨t2, a1, b1⟩ := kx E ce q u t T'.heap (locs ++ L) e1.symm (by rw [← e2]; exact X'.warmed.alike) hp hb k1 k2 k3 (by rw [e1]; exact hce) hcv hcl T' rfl X'
    exact ⟨t2, st.trans a1, b1⟩
theorem vx_calld {S SX : Type} {post : UInt64 → S → Prop} {px : SX → Prop} {B : S → State → Prop} {BX : String → SX → State → Prop} {AX : Nat → Prop} (hr : vx_Run p l e R s m args below meth c H locs cells slots mc ms (F0 m pc ls st0) rest (va_Qd post B A1 a) (vx_X px BX AX) free) (hS : va_S A0 H0 H locs) (hA : ∀ q, q < H.size → A1 q → A0 q) (hf : ∀ q, free q → A0 q) (hAX : ∀ q, q < H.size → AX q → A0 q)
    (kx : ∀ (E : String) (ce : Cell) (q9 : Addr) (u : SX) (t : State) (H1 : Heap) (locs1 : List Loc), t.heap = H1 → s.vm.Alike t.vm → px u → BX E u t → H.size ≤ H1.size → (∀ q : Nat, q < H.size → ¬ AX q → H1[q]? = H[q]?) → va_S A0 H0 H1 locs1 → H1[q9]? = some ce → ce.vm = .none → s.vm.findClass E = some ce.cls → vx_W p l e R s m args below meth c H1 locs1 (cells + mc) (slots + ms) Q (F0 m pc ls rest) q9)
    (kk : ∀ (r : UInt64) (u : S) (t : State) (H1 : Heap) (locs1 : List Loc), t.heap = H1 → s.vm.Alike t.vm → post r u → B u t → H.size ≤ H1.size → (∀ q : Nat, q < H.size → ¬ A1 q → H1[q]? = H[q]?) → va_S A0 H0 H1 locs1 → W p l e R s m args below meth c H1 locs1 (cells + mc) (slots + ms) Q (F0 m (pc + 3) ls (.double r :: rest))) : W p l e R s m args below meth c H locs cells slots Q (F0 m pc ls st0) := by
  intro T hT X
  rcases hr T hT X with ⟨v, st₀, t, T', L, h0, X', hL, e1, e2, ⟨⟨r, u, hv, hp, hb⟩, hF⟩, st⟩ | ⟨q, st₀, t, T', L, E, ce, h0, X', hL, e1, e2, ⟨u, hp, hb, hF⟩, hce, hcv, hcl, st⟩
  · cases hv
    obtain ⟨k1, k2, k3⟩ := vx_keep h0 e1 hS hA hf hL hF
    obtain ⟨t2, a1, b1⟩ := kk r u t T'.heap (locs ++ L) e1.symm (by rw [← e2]; exact X'.warmed.alike) hp hb k1 k2 k3 T' rfl X'
    exact ⟨t2, st t2 a1, b1⟩
  · obtain ⟨k1, k2, k3⟩ := vx_keep h0 e1 hS hAX hf hL hF
    obtain ⟨t2, a1, b1⟩ := kx E ce q u t T'.heap (locs ++ L) e1.symm (by rw [← e2]; exact X'.warmed.alike) hp hb k1 k2 k3 (by rw [e1]; exact hce) hcv hcl T' rfl X'
    exact ⟨t2, st.trans a1, b1⟩
theorem vx_callv {S SX : Type} {post : S → Prop} {px : SX → Prop} {B : S → State → Prop} {BX : String → SX → State → Prop} {AX : Nat → Prop} (hr : vx_Run p l e R s m args below meth c H locs cells slots mc ms (F0 m pc ls st0) rest (va_Qv post B A1 a) (vx_X px BX AX) free) (hS : va_S A0 H0 H locs) (hA : ∀ q, q < H.size → A1 q → A0 q) (hf : ∀ q, free q → A0 q) (hAX : ∀ q, q < H.size → AX q → A0 q)
    (kx : ∀ (E : String) (ce : Cell) (q9 : Addr) (u : SX) (t : State) (H1 : Heap) (locs1 : List Loc), t.heap = H1 → s.vm.Alike t.vm → px u → BX E u t → H.size ≤ H1.size → (∀ q : Nat, q < H.size → ¬ AX q → H1[q]? = H[q]?) → va_S A0 H0 H1 locs1 → H1[q9]? = some ce → ce.vm = .none → s.vm.findClass E = some ce.cls → vx_W p l e R s m args below meth c H1 locs1 (cells + mc) (slots + ms) Q (F0 m pc ls rest) q9)
    (kk : ∀ (u : S) (t : State) (H1 : Heap) (locs1 : List Loc), t.heap = H1 → s.vm.Alike t.vm → post u → B u t → H.size ≤ H1.size → (∀ q : Nat, q < H.size → ¬ A1 q → H1[q]? = H[q]?) → va_S A0 H0 H1 locs1 → W p l e R s m args below meth c H1 locs1 (cells + mc) (slots + ms) Q (F0 m (pc + 3) ls (rest))) : W p l e R s m args below meth c H locs cells slots Q (F0 m pc ls st0) := by
  intro T hT X
  rcases hr T hT X with ⟨v, st₀, t, T', L, h0, X', hL, e1, e2, ⟨⟨u, hv, hp, hb⟩, hF⟩, st⟩ | ⟨q, st₀, t, T', L, E, ce, h0, X', hL, e1, e2, ⟨u, hp, hb, hF⟩, hce, hcv, hcl, st⟩
  · cases hv
    obtain ⟨k1, k2, k3⟩ := vx_keep h0 e1 hS hA hf hL hF
    obtain ⟨t2, a1, b1⟩ := kk u t T'.heap (locs ++ L) e1.symm (by rw [← e2]; exact X'.warmed.alike) hp hb k1 k2 k3 T' rfl X'
    exact ⟨t2, st t2 a1, b1⟩
  · obtain ⟨k1, k2, k3⟩ := vx_keep h0 e1 hS hAX hf hL hF
    obtain ⟨t2, a1, b1⟩ := kx E ce q u t T'.heap (locs ++ L) e1.symm (by rw [← e2]; exact X'.warmed.alike) hp hb k1 k2 k3 (by rw [e1]; exact hce) hcv hcl T' rfl X'
    exact ⟨t2, st.trans a1, b1⟩
/-- caught by the row x of this method's table; the rows ahead don't take it -/
theorem vx_catch {own name : String} {E : String} {ce : Cell} {q : Addr} (hown : s.vm.findClass own = some m.cls) (pre : List ExceptionTableEntry) (x : ExceptionTableEntry) (suf : List ExceptionTableEntry) (hsplit : c.exceptionTable.toList = pre ++ x :: suf)
    (hpass : ∀ z ∈ pre, covers z pc = false ∨ (z.catchType ≠ 0 ∧ ∃ nm : String, (Cond.classLink own z.catchType nm).before args s = true ∧ va_Nc E nm s)) (hx : covers x pc = true) (h0 : x.catchType ≠ 0)
    (hlink : (Cond.classLink own x.catchType name).before args s = true) (hcast : (Cond.castable E name).before args s = true) (hcell : H[q]? = some ce) (hv : ce.vm = .none) (hcl : s.vm.findClass E = some ce.cls)
    (kk : W p l e R s m args below meth c H locs cells slots Q (F0 m x.handlerPc ls [.ref q])) : vx_W p l e R s m args below meth c H locs cells slots Q (F0 m pc ls rest) q := by
  intro T hT X
  have hpl : e.platform.magicAccessors = ({} : Platform).magicAccessors := by rw [X.admits.platform]
  obtain ⟨c3, c4, hc3, hc4, hasg⟩ := Cond.castable_spec hcast
  cases Option.some.inj (hc3.symm.trans hcl)
  obtain ⟨c5, hc5, hcl5⟩ := Cond.classLink_spec hown hlink e.platform hpl
  cases Option.some.inj (hc4.symm.trans hc5)
  obtain ⟨vm', X', st⟩ := X.thenCaughtThrough q (g := F0 m pc ls rest) rfl (Steps.refl _) (by rw [hT]; exact hcell) (by rw [hv]; rfl) (by obtain ⟨k9, h9, -⟩ := Vm.findClass_spec hcl; exact ⟨k9, h9⟩) pre x suf hsplit
    (fun z hz => by
      rcases hpass z hz with h | ⟨hz0, nm, hl1, hn1⟩
      · exact Or.inl h
      · obtain ⟨c6, hc6, hcl6⟩ := Cond.classLink_spec hown hl1 e.platform hpl
        obtain ⟨a8, b8, h1, h2, h3⟩ := hn1
        cases Option.some.inj (h1.symm.trans hcl)
        cases Option.some.inj (h2.symm.trans hc6)
        exact Or.inr ⟨hz0, _, hcl6, h3⟩) hx (Or.inr ⟨h0, c4, hcl5, hasg⟩)
  obtain ⟨t, a1, b1⟩ := kk (T.setVm vm') hT X'
  exact ⟨t, st.trans a1, b1⟩
end Rows
section Ends
variable {p : Program} {l : Launch} {e : Env} {R : Room} {s : State} {m : MethodId} {args : Array Value} {below : List Frame} {meth : Method} {c : Code} {H : Heap} {locs : List Loc} {cells slots : Nat} {Q : State → Prop}
variable {mc ms : Nat} {free : Addr → Prop} {A0 A1 : Nat → Prop} {H0 : Heap} {a : Array Value} {ls : Array Slot} {st0 rest : List Value}
variable {Qc : Array Value → State → Outcome → State → Prop} {XC : String → State → State → Prop}
/-- what a body that may throw owes at its end -/
def vx_MQ (below : List Frame) (Qc : Array Value → State → Outcome → State → Prop) (XC : String → State → State → Prop) (a : Array Value) (s : State) (mc ms : Nat) (free : Addr → Prop) : State → Prop := fun t =>
  ∃ o, t.status = .running ∧ Ended t below o ∧ vx_Q Qc XC mc ms free a s o t
theorem vx_ret {g : JFrame} {mc ms : Nat} (k : W p l e R s m args below meth c H locs cells slots (MQ below Qc args s mc ms free) g) : W p l e R s m args below meth c H locs cells slots (vx_MQ below Qc XC args s mc ms free) g := by
  intro T hT X
  obtain ⟨t, a1, o, b1, b2, b3, b4⟩ := k T hT X
  exact ⟨t, a1, o, b1, b2, Or.inl ⟨b3, b4⟩⟩
/-- not caught here: it goes on to the caller -/
theorem vx_widen {g : JFrame} {q : Addr} {k n : Nat} (h1 : cells ≤ k) (h2 : slots ≤ n) (kk : vx_W p l e R s m args below meth c H locs k n Q g q) : vx_W p l e R s m args below meth c H locs cells slots Q g q := fun T hT X => kk T hT (stand_widen X h1 h2)
theorem vx_out {pc : Nat} {E : String} {ce : Cell} {q : Addr} {mc ms : Nat} (hout : ∀ x ∈ c.exceptionTable.toList, covers x pc = false) (hlocks : meth.locks = false) (hcell : H[q]? = some ce) (hv : ce.vm = .none) (hcl : s.vm.findClass E = some ce.cls)
    (hx : ∀ t : State, t.heap = H → s.vm.Alike t.vm → XC E s t) (hf : ∀ z ∈ locs, free z.base) (hc : cells ≤ mc) (hs : slots ≤ ms) :
    vx_W p l e R s m args below meth c H locs cells slots (vx_MQ below Qc XC args s mc ms free) (F0 m pc ls rest) q := by
  intro T hT X
  obtain ⟨st1, hrun, hend, hW, hsm⟩ := X.leaveThrown q (g := F0 m pc ls rest) rfl rfl rfl hout hlocks
  have hcell9 : (T.setFrames (.throwing q :: below)).heap[q]? = some ce := by
    show T.heap[q]? = some ce
    rw [hT]; exact hcell
  exact ⟨_, st1, .threw q, hrun, hend, Or.inr ⟨q, rfl, E, ce, locs, hx _ hT hW.alike, hcell9, hv, hcl, hW, hsm.mono hc hs, hf⟩⟩
theorem vx_frame {U : State} {k n : Nat} (h : s.sameButNew ({ U with vm := s.vm } : State) locs k n) : s.heap.size ≤ U.heap.size ∧ ∀ q : Nat, q < s.heap.size → (∀ z ∈ locs, z.base ≠ q) → U.heap[q]? = s.heap[q]? := by
  obtain ⟨-, h2, -, -, -, h6⟩ := h
  refine ⟨h2, fun q hq hz => ?_⟩
  obtain ⟨c9, e1, e2, e3, e4⟩ := h6 q _ (Array.getElem?_eq_getElem hq)
  have hs : c9.slots = (s.heap[q]).slots := Array.ext_getElem? fun i => e4 i fun hm => hz _ hm rfl
  have h9 : c9 = s.heap[q] := by
    rw [hs] at e2
    exact e2
  have e5 : U.heap[q]? = some c9 := e1
  rw [e5, h9, Array.getElem?_eq_getElem hq]
/-- the words of a throw but the four that speak of the heap -/
def vx_no (w : Cond) : Bool := decide (w ≠ .isRef (.static Bundle.tN "UNASSIGNED_STACK" Bundle.steD)) && decide (w ≠ .isRef (.static Bundle.tN "SUPPRESSED_SENTINEL" Bundle.listD)) && decide (w ≠ .laysStatic Bundle.tN "UNASSIGNED_STACK" Bundle.steD) && decide (w ≠ .laysStatic Bundle.tN "SUPPRESSED_SENTINEL" Bundle.listD)
def vx_at0 (own : String) (ic : Nat) (X : String) (names : List String) : List Cond := (Bundle.ownAtoms0 own ic X names).filter vx_no
def vx_atS (own : String) (ic : Nat) (X : String) (names : List String) : List Cond := (Bundle.ownAtoms own ic X names).filter vx_no
/-- a word that the tables alone decide, or a good one -/
def vx_ot (w : Cond) : Bool := w.onTables || goodWord w
theorem vx_ot_at {args a' : Array Value} {s U : State} {w : Cond} (hW : s.WarmedH U.vm) (hvm : s.vm = U.vm) (hg : vx_ot w = true) (h : w.before args s = true) : w.before a' U = true := by
  simp only [vx_ot, Bool.or_eq_true] at hg
  rcases hg with hg | hg
  · exact va_tabs hg hvm h
  · exact word_at hW (good_of_word hg) h
/-- a list's words: the good ones out of the method's own list, the others by premises of their own -/
theorem vx_hat {args : Array Value} {s : State} {L B : List Cond} (h1 : ∀ w ∈ L.filter goodWord, w.before args s = true) (h2 : ∀ w ∈ L.filter (fun w => !goodWord w), w ∈ B) (h3 : ∀ w ∈ B, w.before args s = true) : ∀ w ∈ L, w.before args s = true := by
  intro w hw
  by_cases g : goodWord w = true
  · exact h1 w (List.mem_filter.mpr ⟨hw, g⟩)
  · refine h3 w (h2 w (List.mem_filter.mpr ⟨hw, ?_⟩))
    show (!goodWord w) = true
    cases hgw : goodWord w
    · rfl
    · exact absurd hgw g
theorem vx_c {args : Array Value} {s : State} {w : Cond} {B : List Cond} (h : w.before args s = true) (t : ∀ w ∈ B, w.before args s = true) : ∀ w' ∈ w :: B, w'.before args s = true := fun w' h' => (List.mem_cons.mp h').elim (fun e => by rw [e]; exact h) (t w')
theorem vx_n {args : Array Value} {s : State} : ∀ w ∈ ([] : List Cond), w.before args s = true := fun _ h => nomatch h
theorem vx_own {args : Array Value} {s : State} {L : List Cond} (h1 : ∀ w ∈ L.filter vx_no, w.before args s = true)
    (hU : (Cond.isRef (.static Bundle.tN "UNASSIGNED_STACK" Bundle.steD)).before args s = true) (hN : (Cond.isRef (.static Bundle.tN "SUPPRESSED_SENTINEL" Bundle.listD)).before args s = true)
    (lU : (Cond.laysStatic Bundle.tN "UNASSIGNED_STACK" Bundle.steD).before args s = true) (lN : (Cond.laysStatic Bundle.tN "SUPPRESSED_SENTINEL" Bundle.listD).before args s = true) : ∀ w ∈ L, w.before args s = true := by
  intro w hw
  by_cases e1 : w = .isRef (.static Bundle.tN "UNASSIGNED_STACK" Bundle.steD)
  · rw [e1]; exact hU
  · by_cases e2 : w = .isRef (.static Bundle.tN "SUPPRESSED_SENTINEL" Bundle.listD)
    · rw [e2]; exact hN
    · by_cases e3 : w = .laysStatic Bundle.tN "UNASSIGNED_STACK" Bundle.steD
      · rw [e3]; exact lU
      · by_cases e4 : w = .laysStatic Bundle.tN "SUPPRESSED_SENTINEL" Bundle.listD
        · rw [e4]; exact lN
        · exact h1 w (List.mem_filter.mpr ⟨hw, by unfold vx_no; rw [decide_eq_true e1, decide_eq_true e2, decide_eq_true e3, decide_eq_true e4]; rfl⟩)
/-- where a static field lies, its class's statics cell in H -/
def vx_L (C n d : String) (A : Nat → Prop) (U : State) (H : Heap) : Prop := ∃ (c : ClassId) (k : Class) (i : Nat) (f : Field) (a : Nat) (cell : Cell), U.vm.findClass C = some c ∧ U.fieldFound? C n d = some (c, k, i, f) ∧ f.isStatic = true ∧ k.statics = some a ∧ H[a]? = some cell ∧ cell.vm.isStatics = true ∧ cell.cls = c ∧ f.slot < cell.slots.size ∧ k.staticTypes[f.slot]? = some f.type ∧ ¬ A a
theorem vx_L.moved {C n d : String} {A : Nat → Prop} {u U : State} {H : Heap} (hvm : u.vm.Alike U.vm) (h : vx_L C n d A u H) : vx_L C n d A U H := by
  obtain ⟨c, k, i, f, a, cell, h1, h2, h3, h4, h5, h6, h7, h8, h9, h10⟩ := h
  obtain ⟨k', hi', he⟩ := State.fieldFound?_setVm hvm h2
  exact ⟨c, k', i, f, a, cell, by rw [hvm.findClass]; exact h1, hi', h3, by rw [he]; exact h4, h5, h6, h7, h8, by rw [he]; exact h9, h10⟩
theorem vx_L.kept {C n d : String} {A : Nat → Prop} {U : State} {H H1 : Heap} (h : vx_L C n d A U H) (hq : ∀ a : Nat, a < H.size → ¬ A a → H1[a]? = H[a]?) : vx_L C n d A U H1 := by
  obtain ⟨c, k, i, f, a, cell, h1, h2, h3, h4, h5, h6, h7, h8, h9, h10⟩ := h
  exact ⟨c, k, i, f, a, cell, h1, h2, h3, h4, by rw [hq a (Array.getElem?_eq_some_iff.mp h5).1 h10]; exact h5, h6, h7, h8, h9, h10⟩
theorem vx_L.narrow {C n d : String} {A B : Nat → Prop} {U : State} {H : Heap} (h : vx_L C n d A U H) (hAB : ∀ q, B q → A q) : vx_L C n d B U H := by
  obtain ⟨c, k, i, f, a, cell, h1, h2, h3, h4, h5, h6, h7, h8, h9, h10⟩ := h
  exact ⟨c, k, i, f, a, cell, h1, h2, h3, h4, h5, h6, h7, h8, h9, fun z => h10 (hAB _ z)⟩
theorem vx_L.word {C n d : String} {A : Nat → Prop} {s : State} {args : Array Value} (h : vx_L C n d A s s.heap) : (Cond.laysStatic C n d).before args s = true := by
  obtain ⟨c, k, i, f, a, cell, h1, h2, h3, h4, h5, h6, h7, h8, h9, -⟩ := h
  show (Cond.laysStatic C n d).holds args s none s [] = true
  exact Cond.laysStatic_of h1 h2 h3 h4 h5 h6 h7 h8 h9
/-- .. and what it holds: null or some reference -/
def vx_Zq (C n d : String) (A : Nat → Prop) (U : State) (H : Heap) : Prop := va_Zq C n d A U H ∧ vx_L C n d A U H
theorem vx_Zq.moved {C n d : String} {A : Nat → Prop} {u U : State} {H : Heap} (hvm : u.vm.Alike U.vm) (h : vx_Zq C n d A u H) : vx_Zq C n d A U H := ⟨va_Zq.moved hvm h.1, vx_L.moved hvm h.2⟩
theorem vx_Zq.kept {C n d : String} {A : Nat → Prop} {U : State} {H H1 : Heap} (h : vx_Zq C n d A U H) (hq : ∀ a : Nat, a < H.size → ¬ A a → H1[a]? = H[a]?) : vx_Zq C n d A U H1 := ⟨va_Zq.kept h.1 hq, vx_L.kept h.2 hq⟩
theorem vx_Zq.narrow {C n d : String} {A B : Nat → Prop} {U : State} {H : Heap} (h : vx_Zq C n d A U H) (hAB : ∀ q, B q → A q) : vx_Zq C n d B U H := ⟨va_Zq.narrow h.1 hAB, vx_L.narrow h.2 hAB⟩
theorem vx_Zqof {args : Array Value} {s : State} {C n d : String} {A : Nat → Prop} (hl : (Cond.laysStatic C n d).before args s = true) (hini : (Cond.initialized C).before args s = true) (h : (Cond.isRef (.static C n d)).before args s = true) (hA : ∀ a : Nat, a < s.heap.size → ¬ A a) : vx_Zq C n d A s s.heap := by
  refine ⟨va_Zqof hl hini h hA, ?_⟩
  obtain ⟨c, k, i, f, a, cell, h1, h2, h3, h4, h5, h6, h7, h8, h9⟩ := Cond.laysStatic_spec hl
  exact ⟨c, k, i, f, a, cell, h1, h2, h3, h4, h5, h6, h7, h8, h9, hA a (Array.getElem?_eq_some_iff.mp h5).1⟩
theorem vx_isRef {C n d : String} {v : Value} {A : Nat → Prop} {s : State} {args : Array Value} (h : va_Z C n d v A s s.heap) (hv : v.isRef = true) : (Cond.isRef (.static C n d)).before args s = true := by
  obtain ⟨cf, kf, fi, f, a, cell, h1, h2, h3, h4, h5, h6, h7, -⟩ := h
  have he : (Term.static C n d).eval args s none [] s = some v := by
    simp [Term.eval, State.fieldNamed?, h1, h2, h4, h5, h6, h7]
  simp only [Cond.before, Cond.holds, Cond.value, he]
  cases v <;> simp_all [Value.isRef]
theorem vx_isRefq {C n d : String} {A : Nat → Prop} {s : State} {args : Array Value} (h : va_Zq C n d A s s.heap) : (Cond.isRef (.static C n d)).before args s = true := by
  rcases h with h | ⟨t, h⟩
  · exact vx_isRef h rfl
  · exact vx_isRef h rfl
/-- the same frame, seen from here: as if the method were called anew in this heap -/
theorem vx_rebase {T : State} (X : Stand p l e R s m args below meth c T locs cells slots) {R' : Room} (hf : R'.frames ≤ R.frames) (hl : R'.locals ≤ R.locals) (hc : cells + R'.cells ≤ R.cells) (hs : slots + R'.slots ≤ R.slots) :
    Stand p l e R' ((T.setVm s.vm).setFrames (.invoking m args :: below)) m args below meth c T [] 0 0 := by
  have htop : (T.setVm s.vm).topJava?.isSome := X.here.top
  have hF : ((T.setVm s.vm).setFrames (.invoking m args :: below)).frames = .invoking m args :: below := State.frames_setFrames _ (State.cur_lt_of_top htop)
  obtain ⟨g₀, hg0⟩ := Option.isSome_iff_exists.mp htop
  obtain ⟨r, hr⟩ := State.topJava?_eq_some.mp hg0
  have hl9 : e.platform.stackLimits (T.setVm s.vm).me = e.platform.stackLimits s.me := X.limits
  have hb9 : (T.setVm s.vm).me.stackBytes = s.me.stackBytes := X.bytes
  refine ⟨X.admits, X.cas, X.clock, hF, ?_, X.hears, X.method, X.code, X.here, X.tail, X.warmed, ?_, ?_, ?_⟩
  · have h := X.room
    have hU : ((T.setVm s.vm).setFrames (.invoking m args :: below)).localsInUse = s.localsInUse := by
      rw [State.localsInUse_invoking hF (meth := meth) (c := c) X.method X.code, State.localsInUse_invoking X.frames X.method X.code]
    simp only [State.hasRoom, Bool.and_eq_true, decide_eq_true_eq] at h ⊢
    obtain ⟨⟨⟨⟨h1, h2, h3, h4, h5, h6⟩, h7⟩, h8⟩, h9⟩ := h
    rw [X.frames, List.length_cons] at h2 h3
    have q1 := X.heapSize
    have q2 := X.used
    simp only [hF, hU, List.length_cons, State.stackLimits_setFrames, State.stackBytes_setFrames, hl9, hb9]
    refine ⟨⟨⟨⟨by omega, by omega, by omega, by omega, by omega, h6⟩, ?_⟩, ?_⟩, X.book⟩
    · show T.heap.size + R'.cells ≤ e.platform.maxCells
      omega
    · show T.slotsUsed + R'.slots ≤ e.platform.maxSlots
      omega
  · rw [State.stackLimits_setFrames]; rfl
  · rw [State.stackBytes_setFrames]; rfl
  · refine ⟨?_, Nat.le_refl _, Nat.le_refl _, ?_, ?_, fun a c9 h9 => ⟨c9, h9, rfl, rfl, fun _ _ => rfl⟩⟩
    · obtain ⟨t, ht, -⟩ := State.frames_cons hr
      show T.setVm s.vm = { ((T.setVm s.vm).setFrames (.invoking m args :: below)).setFrames (T.setVm s.vm).frames with heap := T.heap, slotsUsed := T.slotsUsed }
      rw [State.setFrames_setFrames, State.setFrames_self ht]
      rfl
    · show T.slotsUsed = T.slotsUsed + ((T.heap.toList.drop T.heap.size).map (·.slots.size)).sum
      rw [List.drop_eq_nil_of_le (Nat.le_of_eq Array.length_toList)]
      rfl
    · show ((T.heap.toList.drop T.heap.size).map (·.slots.size)).sum ≤ 0
      rw [List.drop_eq_nil_of_le (Nat.le_of_eq Array.length_toList)]
      exact Nat.le_refl _
/-- 'throw new E()': new; dup; invokespecial; athrow -/
theorem vx_throw0 {cc : ByteArray} {pc : Nat} (hexec : p.tables.exec = Jvm.exec) (hb : c.code = cc) (hl : l.stackTraces = false) {own cls : String} {names : List String} {ik ic mc ms : Nat} {A : Nat → Prop}
    (hown : s.vm.findClass own = some m.cls) (hcls : Bundle.fit cls = true) (hnames : ∀ n ∈ names, Bundle.fit n = true)
    (hk : (Cond.classLink own ik cls).before args s = true) (hini : (Cond.initialized cls).before args s = true) (hat : ∀ w ∈ vx_at0 own ic cls names, w.before args s = true)
    (hgood : ∀ w ∈ Cond.classLink own ik cls :: Cond.initialized cls :: vx_at0 own ic cls names, vx_ot w = true)
    (hU : vx_Zq Bundle.tN "UNASSIGNED_STACK" Bundle.steD A s s.heap) (hN : vx_Zq Bundle.tN "SUPPRESSED_SENTINEL" Bundle.listD A s s.heap) (hS : va_S A s.heap H locs) (hsize : ls.size = c.maxLocals)
    (d0 : decode cc pc = .ok (.new ik, 3)) (d3 : decode cc (pc + 3) = .ok (.dup, 1)) (d4 : decode cc (pc + 4) = .ok (.invokespecial ic, 3)) (d7 : decode cc (pc + 7) = .ok (.athrow, 1))
    (hout : ∀ x ∈ c.exceptionTable.toList, covers x (pc + 7) = false)
    (hRframes : names.length + 3 < R.frames) (hRlocals : (rest.map fun v => v.category).sum + (13 * (names.length + 1) + 42) ≤ R.locals) (hRcells : cells + 1 ≤ R.cells) (hRslots : slots + 6 ≤ R.slots) (hlocks : meth.locks = false)
    (hx : ∀ t : State, s.vm.Alike t.vm → H.size ≤ t.heap.size → (∀ q : Nat, q < H.size → t.heap[q]? = H[q]?) → XC cls s t)
    (hf : ∀ z ∈ locs, free z.base) (hc : cells + 1 ≤ mc) (hs : slots + 6 ≤ ms) :
    W p l e R s m args below meth c H locs cells slots (vx_MQ below Qc XC args s mc ms free) (F0 m pc ls rest) := by
  intro T hT X
  have htr : e.platform.stackTraces = false := (show e.platform.stackTraces = l.stackTraces by rw [X.admits.platform]).trans hl
  have Y := vx_rebase X (R' := { frames := R.frames, locals := R.locals, cells := 1, slots := 6 }) (Nat.le_refl _) (Nat.le_refl _) hRcells hRslots
  obtain ⟨s', hA⟩ : ∃ z, z = (T.setVm s.vm).setFrames (.invoking m args :: below) := ⟨_, rfl⟩
  rw [← hA] at Y
  have hvm : s'.vm = s.vm := by rw [hA]; rfl
  have hhp : s'.heap = H := by rw [hA]; exact hT
  have hW0 : s.WarmedH s'.vm := by rw [hvm]; exact State.WarmedH.refl s
  have hat' : ∀ w ∈ vx_at0 own ic cls names, w.before args s' = true := fun w hw => vx_ot_at hW0 hvm.symm (hgood w (List.mem_cons_of_mem _ (List.mem_cons_of_mem _ hw))) (hat w hw)
  have hk' : (Cond.classLink own ik cls).before args s' = true := vx_ot_at hW0 hvm.symm (hgood _ List.mem_cons_self) hk
  have hini' : (Cond.initialized cls).before args s' = true := vx_ot_at hW0 hvm.symm (hgood _ (List.mem_cons_of_mem _ List.mem_cons_self)) hini
  have hU' : vx_Zq Bundle.tN "UNASSIGNED_STACK" Bundle.steD A s' s'.heap := by rw [hhp]; exact vx_Zq.moved hW0.alike (hU.kept hS.2.1)
  have hN' : vx_Zq Bundle.tN "SUPPRESSED_SENTINEL" Bundle.listD A s' s'.heap := by rw [hhp]; exact vx_Zq.moved hW0.alike (hN.kept hS.2.1)
  have h : ∀ w ∈ Bundle.ownAtoms0 own ic cls names, w.before args s' = true := vx_own hat' (vx_isRefq hU'.1) (vx_isRefq hN'.1) hU'.2.word hN'.2.word
  have hown' : s'.vm.findClass own = some m.cls := by rw [hvm]; exact hown
  have hins : (Cond.instantiable cls 6).before args s' = true := h _ (by simp [Bundle.ownAtoms0])
  obtain ⟨vm₁, cX, kX, hfX, hkX, -, -, X₁, st1⟩ := Y.newCold hexec (own := own) (C := cls) (index := ik) (n := 6) hown' hk' hins hini'
    (g := F0 m pc ls rest) rfl (by rw [hb]; exact d0) (Nat.le_refl _) (Nat.le_refl _)
  generalize hT1 : (T.setVm vm₁).pushCell { cls := cX, slots := kX.instanceTypes.map defaultValue, vm := .none } = T1 at X₁ st1
  have hcat : (Value.ref T.heap.size).category = 1 := rfl
  have hcellA : T1.heap[T.heap.size]? = some (freshCell cX kX) := by rw [← hT1]; exact State.heap_pushCell_size _ _
  have d3' : decode c.code (pc + 3) = .ok (.dup, 1) := by rw [hb]; exact d3
  obtain ⟨U, hsteps, hrun, hend, hW, hsame, ce, hce, hO⟩ := X₁.ctorThrow0 hexec htr (own := own) (cls := cls) (names := names) (ic := ic) hown' hcls hnames h (fun x hx => nomatch hx) hfX hkX hcellA (by rw [hhp, hT]; exact Nat.le_refl _)
    (g := { method := m, pc := pc + 4, locals := ls, stack := .ref T.heap.size :: .ref T.heap.size :: rest, locked := none }) rfl hsize rfl rfl (rest := rest) rfl
    (by rw [hb]; exact d4) (by rw [hb]; exact d7) hout hRframes (by simp only [List.map_cons, List.sum_cons, hcat]; omega) hlocks
  obtain ⟨f1, f2⟩ := vx_frame hsame
  rw [hhp] at f1 f2
  have hWs : s.WarmedH U.vm := State.WarmedH.trans hW0 hW
  have hcl : s.vm.findClass cls = some ce.cls := by
    have h9 := hO.cls
    rw [hvm] at h9
    exact h9
  have hall : s.sameButNew ({ U with vm := s.vm } : State) locs mc ms := by
    subst hA
    obtain ⟨e1, e2⟩ := hsame
    rw [State.setFrames_setFrames] at e1
    have h2 : (T.setVm s.vm).sameButNew ({ U with vm := s.vm } : State) [] (0 + 1) (0 + 6) := ⟨e1, e2⟩
    have h3 := X.same.trans h2
    rw [List.append_nil] at h3
    exact h3.mono hc hs
  refine ⟨U, ?_, .threw T.heap.size, hrun, hend, Or.inr ⟨T.heap.size, rfl, cls, ce, locs, hx U hWs.alike f1 (fun q hq => f2 q hq (fun z hz => nomatch hz)), hce, hO.vm, hcl, hWs, hall, hf⟩⟩
  refine st1 _ ?_
  show Steps p.tables e below (T1.setTop { method := m, pc := pc + 3, locals := ls, stack := .ref T.heap.size :: rest, locked := none }) _
  jvm_step X₁.here [X₁.here.top, hexec, d3', Value.category]
  exact hsteps
/-- 'throw new E("text")': new; dup; ldc; invokespecial; athrow -/
theorem vx_throwS {cc : ByteArray} {pc : Nat} (hexec : p.tables.exec = Jvm.exec) (hb : c.code = cc) (hl : l.stackTraces = false) {own cls text : String} {names : List String} {ik is ic mc ms sa : Nat} {A : Nat → Prop}
    (hown : s.vm.findClass own = some m.cls) (hcls : Bundle.fit cls = true) (hnames : ∀ n ∈ names, Bundle.fit n = true)
    (hk : (Cond.classLink own ik cls).before args s = true) (hini : (Cond.initialized cls).before args s = true) (hstr : vk_R own is text sa s) (hat : ∀ w ∈ vx_atS own ic cls names, w.before args s = true)
    (hgood : ∀ w ∈ Cond.classLink own ik cls :: Cond.initialized cls :: vx_atS own ic cls names, vx_ot w = true)
    (hU : vx_Zq Bundle.tN "UNASSIGNED_STACK" Bundle.steD A s s.heap) (hN : vx_Zq Bundle.tN "SUPPRESSED_SENTINEL" Bundle.listD A s s.heap) (hS : va_S A s.heap H locs) (hsize : ls.size = c.maxLocals)
    (d0 : decode cc pc = .ok (.new ik, 3)) (d3 : decode cc (pc + 3) = .ok (.dup, 1)) (d4 : decode cc (pc + 4) = .ok (.ldc is, 2)) (d6 : decode cc (pc + 6) = .ok (.invokespecial ic, 3)) (d9 : decode cc (pc + 9) = .ok (.athrow, 1))
    (hout : ∀ x ∈ c.exceptionTable.toList, covers x (pc + 9) = false)
    (hRframes : names.length + 3 < R.frames) (hRlocals : (rest.map fun v => v.category).sum + (13 * (names.length + 1) + 43) ≤ R.locals) (hRcells : cells + 1 ≤ R.cells) (hRslots : slots + 6 ≤ R.slots) (hlocks : meth.locks = false)
    (hx : ∀ t : State, s.vm.Alike t.vm → H.size ≤ t.heap.size → (∀ q : Nat, q < H.size → t.heap[q]? = H[q]?) → XC cls s t)
    (hf : ∀ z ∈ locs, free z.base) (hc : cells + 1 ≤ mc) (hs : slots + 6 ≤ ms) :
    W p l e R s m args below meth c H locs cells slots (vx_MQ below Qc XC args s mc ms free) (F0 m pc ls rest) := by
  intro T hT X
  have htr : e.platform.stackTraces = false := (show e.platform.stackTraces = l.stackTraces by rw [X.admits.platform]).trans hl
  have Y := vx_rebase X (R' := { frames := R.frames, locals := R.locals, cells := 1, slots := 6 }) (Nat.le_refl _) (Nat.le_refl _) hRcells hRslots
  obtain ⟨s', hA⟩ : ∃ z, z = (T.setVm s.vm).setFrames (.invoking m args :: below) := ⟨_, rfl⟩
  rw [← hA] at Y
  have hvm : s'.vm = s.vm := by rw [hA]; rfl
  have hhp : s'.heap = H := by rw [hA]; exact hT
  have hW0 : s.WarmedH s'.vm := by rw [hvm]; exact State.WarmedH.refl s
  have hat' : ∀ w ∈ vx_atS own ic cls names, w.before args s' = true := fun w hw => vx_ot_at hW0 hvm.symm (hgood w (List.mem_cons_of_mem _ (List.mem_cons_of_mem _ hw))) (hat w hw)
  have hk' : (Cond.classLink own ik cls).before args s' = true := vx_ot_at hW0 hvm.symm (hgood _ List.mem_cons_self) hk
  have hini' : (Cond.initialized cls).before args s' = true := vx_ot_at hW0 hvm.symm (hgood _ (List.mem_cons_of_mem _ List.mem_cons_self)) hini
  have hU' : vx_Zq Bundle.tN "UNASSIGNED_STACK" Bundle.steD A s' s'.heap := by rw [hhp]; exact vx_Zq.moved hW0.alike (hU.kept hS.2.1)
  have hN' : vx_Zq Bundle.tN "SUPPRESSED_SENTINEL" Bundle.listD A s' s'.heap := by rw [hhp]; exact vx_Zq.moved hW0.alike (hN.kept hS.2.1)
  have h : ∀ w ∈ Bundle.ownAtoms own ic cls names, w.before args s' = true := vx_own hat' (vx_isRefq hU'.1) (vx_isRefq hN'.1) hU'.2.word hN'.2.word
  have hown' : s'.vm.findClass own = some m.cls := by rw [hvm]; exact hown
  have hins : (Cond.instantiable cls 6).before args s' = true := h _ (by simp [Bundle.ownAtoms])
  obtain ⟨vm₁, cX, kX, hfX, hkX, -, -, X₁, st1⟩ := Y.newCold hexec (own := own) (C := cls) (index := ik) (n := 6) hown' hk' hins hini'
    (g := F0 m pc ls rest) rfl (by rw [hb]; exact d0) (Nat.le_refl _) (Nat.le_refl _)
  generalize hT1 : (T.setVm vm₁).pushCell { cls := cX, slots := kX.instanceTypes.map defaultValue, vm := .none } = T1 at X₁ st1
  have hcat : (Value.ref T.heap.size).category = 1 := rfl
  have hcellA : T1.heap[T.heap.size]? = some (freshCell cX kX) := by rw [← hT1]; exact State.heap_pushCell_size _ _
  have d3' : decode c.code (pc + 3) = .ok (.dup, 1) := by rw [hb]; exact d3
  have d4' : decode c.code (pc + 4) = .ok (.ldc is, 2) := by rw [hb]; exact d4
  have hstr' : vk_R own is text sa s' := vk_R.warm hW0 hstr
  obtain ⟨U, hsteps, hrun, hend, hW, hsame, ce, hce, hO⟩ := X₁.ctorThrowS hexec htr (own := own) (cls := cls) (names := names) (ic := ic) hown' hcls hnames h (fun x hx => nomatch hx) hfX hkX hcellA (by rw [hhp, hT]; exact Nat.le_refl _) (msg := .ref sa) rfl
    (g := { method := m, pc := pc + 6, locals := ls, stack := .ref sa :: .ref T.heap.size :: .ref T.heap.size :: rest, locked := none }) rfl hsize rfl rfl (rest := rest) rfl
    (by rw [hb]; exact d6) (by rw [hb]; exact d9) hout hRframes (by simp only [List.map_cons, List.sum_cons, hcat]; omega) hlocks
  obtain ⟨f1, f2⟩ := vx_frame hsame
  rw [hhp] at f1 f2
  have hWs : s.WarmedH U.vm := State.WarmedH.trans hW0 hW
  have hcl : s.vm.findClass cls = some ce.cls := by
    have h9 := hO.cls
    rw [hvm] at h9
    exact h9
  have hall : s.sameButNew ({ U with vm := s.vm } : State) locs mc ms := by
    subst hA
    obtain ⟨e1, e2⟩ := hsame
    rw [State.setFrames_setFrames] at e1
    have h2 : (T.setVm s.vm).sameButNew ({ U with vm := s.vm } : State) [] (0 + 1) (0 + 6) := ⟨e1, e2⟩
    have h3 := X.same.trans h2
    rw [List.append_nil] at h3
    exact h3.mono hc hs
  refine ⟨U, ?_, .threw T.heap.size, hrun, hend, Or.inr ⟨T.heap.size, rfl, cls, ce, locs, hx U hWs.alike f1 (fun q hq => f2 q hq (fun z hz => nomatch hz)), hce, hO.vm, hcl, hWs, hall, hf⟩⟩
  refine st1 _ ?_
  show Steps p.tables e below (T1.setTop { method := m, pc := pc + 3, locals := ls, stack := .ref T.heap.size :: rest, locked := none }) _
  jvm_step X₁.here [X₁.here.top, hexec, d3', Value.category]
  exact X₁.ldcString hexec (own := own) (text := text) (index := is) (a := sa) hown' hstr'.1 hstr'.2
    (g := { method := m, pc := pc + 4, locals := ls, stack := .ref T.heap.size :: .ref T.heap.size :: rest, locked := none }) rfl d4' _ hsteps
/-- 'throw new E("text")', the text by a wide index -/
theorem vx_throwSW {cc : ByteArray} {pc : Nat} (hexec : p.tables.exec = Jvm.exec) (hb : c.code = cc) (hl : l.stackTraces = false) {own cls text : String} {names : List String} {ik is ic mc ms sa : Nat} {A : Nat → Prop}
    (hown : s.vm.findClass own = some m.cls) (hcls : Bundle.fit cls = true) (hnames : ∀ n ∈ names, Bundle.fit n = true)
    (hk : (Cond.classLink own ik cls).before args s = true) (hini : (Cond.initialized cls).before args s = true) (hstr : vk_R own is text sa s) (hat : ∀ w ∈ vx_atS own ic cls names, w.before args s = true)
    (hgood : ∀ w ∈ Cond.classLink own ik cls :: Cond.initialized cls :: vx_atS own ic cls names, vx_ot w = true)
    (hU : vx_Zq Bundle.tN "UNASSIGNED_STACK" Bundle.steD A s s.heap) (hN : vx_Zq Bundle.tN "SUPPRESSED_SENTINEL" Bundle.listD A s s.heap) (hS : va_S A s.heap H locs) (hsize : ls.size = c.maxLocals)
    (d0 : decode cc pc = .ok (.new ik, 3)) (d3 : decode cc (pc + 3) = .ok (.dup, 1)) (d4 : decode cc (pc + 4) = .ok (.ldc_w is, 3)) (d7 : decode cc (pc + 7) = .ok (.invokespecial ic, 3)) (d10 : decode cc (pc + 10) = .ok (.athrow, 1))
    (hout : ∀ x ∈ c.exceptionTable.toList, covers x (pc + 10) = false)
    (hRframes : names.length + 3 < R.frames) (hRlocals : (rest.map fun v => v.category).sum + (13 * (names.length + 1) + 43) ≤ R.locals) (hRcells : cells + 1 ≤ R.cells) (hRslots : slots + 6 ≤ R.slots) (hlocks : meth.locks = false)
    (hx : ∀ t : State, s.vm.Alike t.vm → H.size ≤ t.heap.size → (∀ q : Nat, q < H.size → t.heap[q]? = H[q]?) → XC cls s t)
    (hf : ∀ z ∈ locs, free z.base) (hc : cells + 1 ≤ mc) (hs : slots + 6 ≤ ms) :
    W p l e R s m args below meth c H locs cells slots (vx_MQ below Qc XC args s mc ms free) (F0 m pc ls rest) := by
  intro T hT X
  have htr : e.platform.stackTraces = false := (show e.platform.stackTraces = l.stackTraces by rw [X.admits.platform]).trans hl
  have Y := vx_rebase X (R' := { frames := R.frames, locals := R.locals, cells := 1, slots := 6 }) (Nat.le_refl _) (Nat.le_refl _) hRcells hRslots
  obtain ⟨s', hA⟩ : ∃ z, z = (T.setVm s.vm).setFrames (.invoking m args :: below) := ⟨_, rfl⟩
  rw [← hA] at Y
  have hvm : s'.vm = s.vm := by rw [hA]; rfl
  have hhp : s'.heap = H := by rw [hA]; exact hT
  have hW0 : s.WarmedH s'.vm := by rw [hvm]; exact State.WarmedH.refl s
  have hat' : ∀ w ∈ vx_atS own ic cls names, w.before args s' = true := fun w hw => vx_ot_at hW0 hvm.symm (hgood w (List.mem_cons_of_mem _ (List.mem_cons_of_mem _ hw))) (hat w hw)
  have hk' : (Cond.classLink own ik cls).before args s' = true := vx_ot_at hW0 hvm.symm (hgood _ List.mem_cons_self) hk
  have hini' : (Cond.initialized cls).before args s' = true := vx_ot_at hW0 hvm.symm (hgood _ (List.mem_cons_of_mem _ List.mem_cons_self)) hini
  have hU' : vx_Zq Bundle.tN "UNASSIGNED_STACK" Bundle.steD A s' s'.heap := by rw [hhp]; exact vx_Zq.moved hW0.alike (hU.kept hS.2.1)
  have hN' : vx_Zq Bundle.tN "SUPPRESSED_SENTINEL" Bundle.listD A s' s'.heap := by rw [hhp]; exact vx_Zq.moved hW0.alike (hN.kept hS.2.1)
  have h : ∀ w ∈ Bundle.ownAtoms own ic cls names, w.before args s' = true := vx_own hat' (vx_isRefq hU'.1) (vx_isRefq hN'.1) hU'.2.word hN'.2.word
  have hown' : s'.vm.findClass own = some m.cls := by rw [hvm]; exact hown
  have hins : (Cond.instantiable cls 6).before args s' = true := h _ (by simp [Bundle.ownAtoms])
  obtain ⟨vm₁, cX, kX, hfX, hkX, -, -, X₁, st1⟩ := Y.newCold hexec (own := own) (C := cls) (index := ik) (n := 6) hown' hk' hins hini'
    (g := F0 m pc ls rest) rfl (by rw [hb]; exact d0) (Nat.le_refl _) (Nat.le_refl _)
  generalize hT1 : (T.setVm vm₁).pushCell { cls := cX, slots := kX.instanceTypes.map defaultValue, vm := .none } = T1 at X₁ st1
  have hcat : (Value.ref T.heap.size).category = 1 := rfl
  have hcellA : T1.heap[T.heap.size]? = some (freshCell cX kX) := by rw [← hT1]; exact State.heap_pushCell_size _ _
  have d3' : decode c.code (pc + 3) = .ok (.dup, 1) := by rw [hb]; exact d3
  have d4' : decode c.code (pc + 4) = .ok (.ldc_w is, 3) := by rw [hb]; exact d4
  have hstr' : vk_R own is text sa s' := vk_R.warm hW0 hstr
  obtain ⟨U, hsteps, hrun, hend, hW, hsame, ce, hce, hO⟩ := X₁.ctorThrowS hexec htr (own := own) (cls := cls) (names := names) (ic := ic) hown' hcls hnames h (fun x hx => nomatch hx) hfX hkX hcellA (by rw [hhp, hT]; exact Nat.le_refl _) (msg := .ref sa) rfl
    (g := { method := m, pc := pc + 7, locals := ls, stack := .ref sa :: .ref T.heap.size :: .ref T.heap.size :: rest, locked := none }) rfl hsize rfl rfl (rest := rest) rfl
    (by rw [hb]; exact d7) (by rw [hb]; exact d10) hout hRframes (by simp only [List.map_cons, List.sum_cons, hcat]; omega) hlocks
  obtain ⟨f1, f2⟩ := vx_frame hsame
  rw [hhp] at f1 f2
  have hWs : s.WarmedH U.vm := State.WarmedH.trans hW0 hW
  have hcl : s.vm.findClass cls = some ce.cls := by
    have h9 := hO.cls
    rw [hvm] at h9
    exact h9
  have hall : s.sameButNew ({ U with vm := s.vm } : State) locs mc ms := by
    subst hA
    obtain ⟨e1, e2⟩ := hsame
    rw [State.setFrames_setFrames] at e1
    have h2 : (T.setVm s.vm).sameButNew ({ U with vm := s.vm } : State) [] (0 + 1) (0 + 6) := ⟨e1, e2⟩
    have h3 := X.same.trans h2
    rw [List.append_nil] at h3
    exact h3.mono hc hs
  refine ⟨U, ?_, .threw T.heap.size, hrun, hend, Or.inr ⟨T.heap.size, rfl, cls, ce, locs, hx U hWs.alike f1 (fun q hq => f2 q hq (fun z hz => nomatch hz)), hce, hO.vm, hcl, hWs, hall, hf⟩⟩
  refine st1 _ ?_
  show Steps p.tables e below (T1.setTop { method := m, pc := pc + 3, locals := ls, stack := .ref T.heap.size :: rest, locked := none }) _
  jvm_step X₁.here [X₁.here.top, hexec, d3', Value.category]
  exact X₁.ldcStringW hexec (own := own) (text := text) (index := is) (a := sa) hown' hstr'.1 hstr'.2
    (g := { method := m, pc := pc + 4, locals := ls, stack := .ref T.heap.size :: .ref T.heap.size :: rest, locked := none }) rfl d4' _ hsteps
end Ends
section Bodies
variable {l : Launch}
theorem vx_ofW {y : MethodName} {ws ws' : List Cond} {rm : Room} {Pc : Array Value → State → Prop} {Qc : Array Value → State → Outcome → State → Prop} {XC : String → State → State → Prop} {mc ms : Nat} {free : Addr → Prop} {cc : ByteArray} {maxL : Nat} {ret : Option FieldType}
    (hy : plainName y.cls = true) (hw : ws = Cond.code y cc maxL ret :: ws')
    (body : ∀ p e s m args below meth c s₁, BodyLoose p l y (headSpec ws rm) cc maxL ret e s m args below meth c s₁ → c.maxLocals = maxL → (∀ x ∈ c.exceptionTable.toList, False) → Pc args s →
      W p l e (headSpec ws rm).room s m args below meth c s.heap [] 0 0 (vx_MQ below Qc XC args s mc ms free) (entryFrame m args maxL)) : vx_Met l y ws rm Pc Qc XC mc ms free := by
  refine MetFree.of_bodyS (code := cc) (maxLocals := maxL) (ret := ret) hy ?_ ?_
  · intro args s m h hn
    obtain ⟨meth, c, h1, h2, h3, h4, h5, h6, -, -⟩ := Cond.code_spec hn (atoms_spec (ws := ws) h _ (by rw [hw]; exact List.mem_cons_self))
    exact ⟨meth, c, h1, h2, h3, h4, h5, h6⟩
  · intro p e s m args below meth c s₁ B hml hP _
    have hh0 : s₁.heap = s.heap := by rw [B.state]; rfl
    have ht : ∀ x ∈ c.exceptionTable.toList, False := by
      obtain ⟨meth9, c9, h1, h2, -, -, -, -, h7, -⟩ := Cond.code_spec B.named (atoms_spec (ws := ws) B.pre _ (by rw [hw]; exact List.mem_cons_self))
      cases Option.some.inj (h1.symm.trans B.method)
      cases Option.some.inj (h2.symm.trans (Stand.of_body B).code)
      intro x hx
      rw [Array.isEmpty_iff.mp h7] at hx
      cases hx
    obtain ⟨t, a1, o, b1, b2, b3⟩ := body p e s m args below meth c s₁ B hml ht hP s₁ hh0 (Stand.of_body B)
    exact ⟨t, o, a1, b1, b2, b3⟩
/-- the table of a body with handlers -/
theorem vx_table {p : Program} {x y : MethodName} {S : Spec} {cc bytes : ByteArray} {maxL maxL' : Nat} {ret ret' : Option FieldType} {e : Env} {s s₁ : State} {m : MethodId} {args : Array Value} {below : List Frame} {meth : Method} {c : Code} {hh : List (Nat × Nat × Nat × Nat)}
    (B : BodyLoose p l y S cc maxL ret e s m args below meth c s₁) (h : (Cond.codeWith y bytes maxL' ret' hh).before args s = true) : c.exceptionTable.toList = tableOf hh := by
  obtain ⟨m9, meth9, c9, hn9, h1, h2, -, -, h6, -⟩ := Cond.codeWith_spec h
  cases Option.some.inj (hn9.symm.trans B.named)
  cases Option.some.inj (h1.symm.trans B.method)
  cases Option.some.inj (h2.symm.trans (Stand.of_body B).code)
  rw [← h6, table_eq]
end Bodies
end VXA
/-! ===== END ===== -/
/-! ===== BEGIN a static call of a method with an exception table ===== -/
section VXS
variable {p : Program} {l : Launch} {e : Env} {R : Room} {s : State} {m : MethodId} {args : Array Value} {below : List Frame} {meth : Method} {c : Code} {T : State} {H : Heap} {locs : List Loc} {cells slots : Nat}
abbrev vx_CSW (R : Room) (s : State) (args : Array Value) (own : String) (index : Nat) (y : MethodName) (bytes : ByteArray) (maxL : Nat) (ret : Option FieldType) (hh : List (Nat × Nat × Nat × Nat)) (ws : List Cond) (rm : Room) (mc ms n : Nat) : Prop :=
  (rm.cells = mc ∧ rm.slots = ms ∧ rm.frames + 1 ≤ R.frames ∧ 8 + (maxL + 11) + rm.locals ≤ R.locals ∧ (∀ w ∈ ws, ∀ (a' : Array Value) (U : State), s.WarmedH U.vm → w.before a' U = true) ∧ Cond.codeWith y bytes maxL ret hh ∈ ws) ∧
  (Cond.codeWith y bytes maxL ret hh).before args s = true ∧ (Cond.initialized y.cls).before args s = true ∧ (y.cls ≠ "java/lang/invoke/MethodHandle" ∧ y.cls ≠ "java/lang/invoke/VarHandle") ∧
  (∀ sig, parseMethodDescriptor y.desc = some sig → n = sig.parameters.length) ∧ (Cond.methodLink own index y).before args s = true ∧ (Cond.static y).before args s = true
theorem vx_cwSW {own : String} {index maxL mc ms : Nat} {y : MethodName} {bytes : ByteArray} {ret : Option FieldType} {hh : List (Nat × Nat × Nat × Nat)} {Ts ws ws' : List Cond} {rm : Room} (n : Nat) (ht : ∀ w ∈ Ts, w.before args s = true) (hT : GoodIn Ts (va_wsS own index y ws)) (hw : ws = Cond.codeWith y bytes maxL ret hh :: ws') (hrc : rm.cells = mc) (hrs : rm.slots = ms)
    (hd : y.cls ≠ "java/lang/invoke/MethodHandle" ∧ y.cls ≠ "java/lang/invoke/VarHandle" ∧ (parseMethodDescriptor y.desc).map (fun d => d.parameters.length) = some n) (hR : rm.frames + 1 ≤ R.frames ∧ 8 + (maxL + 11) + rm.locals ≤ R.locals) :
    vx_CSW R s args own index y bytes maxL ret hh ws rm mc ms n := by
  have ok : ∀ w ∈ va_wsS own index y ws, w.before args s = true := fun w h => ht w (hT w h).1
  have hG : GoodIn Ts ws := fun w h => hT w (by unfold va_wsS; exact List.mem_append_right _ h)
  have hc : Cond.codeWith y bytes maxL ret hh ∈ ws := by rw [hw]; exact List.mem_cons_self
  refine ⟨⟨hrc, hrs, hR.1, hR.2, pay_in ht hG, hc⟩, ht _ (hG _ hc).1, ok _ (by simp [va_wsS]), ⟨hd.1, hd.2.1⟩, fun sig h => ?_, ok _ (by simp [va_wsS]), ok _ (by simp [va_wsS])⟩
  have h2 := hd.2.2
  rw [h] at h2
  exact (Option.some.inj h2).symm
theorem vx_callSW (X : Stand p l e R s m args below meth c T locs cells slots) (hexec : p.tables.exec = Jvm.exec) {own : String} {index : Nat} {y : MethodName} {bytes : ByteArray} {maxL : Nat} {ret : Option FieldType} {hh : List (Nat × Nat × Nat × Nat)}
    (hown : s.vm.findClass own = some m.cls) (hlink : (Cond.methodLink own index y).before args s = true) (hstat : (Cond.static y).before args s = true) (hinit : (Cond.initialized y.cls).before args s = true)
    (hcode : (Cond.codeWith y bytes maxL ret hh).before args s = true) (hy : y.cls ≠ "java/lang/invoke/MethodHandle" ∧ y.cls ≠ "java/lang/invoke/VarHandle")
    {W9 : Nat} {Pre : Pt → Array Value → Prop} {Post : Pt → Array Value → Option Value → Pt → Prop} (hK : Back l R p e below s args y 3 W9 Pre Post)
    {g : JFrame} (hg : g.method = m) (hsize : g.locals.size = c.maxLocals) {argsL rest : List Value} (hlen : ∀ sig, parseMethodDescriptor y.desc = some sig → argsL.length = sig.parameters.length)
    (hstack : g.stack = argsL.reverse ++ rest) (hW : 2 * g.monitorRoom + (rest.map fun v => v.category).sum ≤ W9) (hdg : decode c.code g.pc = .ok (.invokestatic index, 3))
    (hpre : ∀ vm₁, s.WarmedH vm₁ → Pre ⟨T.setVm vm₁, locs, cells, slots⟩ argsL.toArray) :
    ∃ (v : Option Value) (vm₁ : Vm) (B : Pt), s.WarmedH vm₁ ∧ Stand p l e R s m args below meth c B.U B.locs B.cells B.slots ∧ Post ⟨T.setVm vm₁, locs, cells, slots⟩ argsL.toArray v B ∧
      ∀ target, Steps p.tables e below (B.U.setTop { g with pc := g.pc + 3, stack := v.toList ++ rest }) target → Steps p.tables e below (T.setTop g) target := by
  obtain ⟨mk, methM, cM, hnamed, hmethM, -, -, -, -, -, -, hsigM⟩ := Cond.codeWith_spec hcode
  have hstatic : methM.isStatic = true := Cond.static_spec hnamed hmethM hstat
  obtain ⟨kP, hkP, -⟩ := className_of_methodNamed hnamed
  have hinitP : kP.init = .initialized := Cond.initialized_spec (findClass_of_methodNamed hnamed) hkP hinit
  obtain ⟨vm₁, X₁, hstep₁⟩ := X.invokestatic hexec hown hlink hnamed hmethM hstatic hkP hinitP hy (g := g) hg (argsL := argsL) (rest := rest) (hlen _ hsigM) hstack hdg
  obtain ⟨v, B, X', hpost, hsteps⟩ := hK m meth c ⟨T.setVm vm₁, locs, cells, slots⟩ { g with stack := rest } (.invokestatic index) mk argsL.toArray X₁ hg hsize hdg hW (X₁.named hnamed) (hpre vm₁ X₁.warmed)
  exact ⟨v, vm₁, B, X₁.warmed, X', hpost, fun target h => hstep₁ _ fun acts => by rw [doInvoke_state]; exact hsteps.trans h⟩
theorem vx_runSW {y : MethodName} {bytes cc : ByteArray} {maxL nL mc ms n index : Nat} {ret : Option FieldType} {hh : List (Nat × Nat × Nat × Nat)} {ws : List Cond} {rm : Room} {Pc : Array Value → State → Prop} {Qc : Array Value → State → Outcome → State → Prop} {free : Addr → Prop} {Ts : List Cond} {own : String} {As rest : List Value} {g : JFrame}
    (S : CallFix p m c cc nL s args Ts own) (hM : Met l y ws rm Pc Qc mc ms free) (cw : vx_CSW R s args own index y bytes maxL ret hh ws rm mc ms n) (hp : PreS s H Pc As)
    (hg : g.method = m) (hn : As.length = n) (hsize : g.locals.size = nL) (hstack : g.stack = As.reverse ++ rest) (hW : 2 * g.monitorRoom + (rest.map fun v => v.category).sum ≤ 8) (hdg : decode cc g.pc = .ok (.invokestatic index, 3)) (hf : cells + mc ≤ R.cells ∧ slots + ms ≤ R.slots) :
    va_Run p l e R s m args below meth c H locs cells slots mc ms g rest (Qc As.toArray) (free) := by
  obtain ⟨⟨hrc, hrs, hfr, hlo, hws, hcw⟩, hcode, hini, hy, hlen, hl, hstt⟩ := cw
  have hK : Back l R p e below s args y 3 8 (PreOf R mc ms Pc) (PostOf Qc mc ms free) := va_backW (hh := hh) (bytes := bytes) (maxL := maxL) (ret := ret) hM hp.1 hrc hrs hfr hlo hws hcw (fun a' U hW => word_at hW (Or.inl (by first | rfl | simp [Cond.onTables, Cond.keeps, Cond.steady])) hini)
  obtain ⟨hx, hb, hml, ho, -⟩ := S
  intro T hT X
  obtain ⟨v, vm₁, ⟨U', l2, c2, s2⟩, hW₁, X', ⟨g', mk, t, L, e1, e2, hq, h1, hL, h2, h3⟩, st⟩ := vx_callSW X hx (hh := hh) (bytes := bytes) (maxL := maxL) (ret := ret) ho hl hstt hini hcode hy hK hg (hsize.trans hml.symm) (argsL := As) (rest := rest) (fun sig h => hn.trans (hlen sig h)) hstack hW (by rw [hb]; exact hdg)
    (fun vm₁ hW₁ => ⟨hf.1, hf.2, hp.2 (T.setVm vm₁) hT hW₁⟩)
  dsimp only [Pt.U, Pt.locs, Pt.cells, Pt.slots] at X' e1 e2 h1 h2 h3 st
  subst h1; subst h2; subst h3
  exact ⟨v, (T.setVm vm₁).calling g' mk As.toArray, t, U', L, hT, X', hL, e1, e2, hq, st⟩
/-- not caught here, past rows that name other classes: it goes on to the caller -/
theorem vx_outP {p : Program} {l : Launch} {e : Env} {R : Room} {s : State} {m : MethodId} {args : Array Value} {below : List Frame} {meth : Method} {c : Code} {H : Heap} {locs : List Loc} {cells slots : Nat} {free : Addr → Prop} {ls : Array Slot} {rest : List Value} {Qc : Array Value → State → Outcome → State → Prop} {XC : String → State → State → Prop}
    {pc : Nat} {own E : String} {ce : Cell} {q : Addr} {mc ms : Nat} (hown : s.vm.findClass own = some m.cls) (hlocks : meth.locks = false)
    (hpass : ∀ z ∈ c.exceptionTable.toList, covers z pc = false ∨ (z.catchType ≠ 0 ∧ ∃ nm : String, (Cond.classLink own z.catchType nm).before args s = true ∧ va_Nc E nm s)) (hcell : H[q]? = some ce) (hv : ce.vm = .none) (hcl : s.vm.findClass E = some ce.cls)
    (hx : ∀ t : State, t.heap = H → s.vm.Alike t.vm → XC E s t) (hf : ∀ z ∈ locs, free z.base) (hc : cells ≤ mc) (hs : slots ≤ ms) :
    vx_W p l e R s m args below meth c H locs cells slots (vx_MQ below Qc XC args s mc ms free) (F0 m pc ls rest) q := by
  intro T hT X
  have hpl : e.platform.magicAccessors = ({} : Platform).magicAccessors := by rw [X.admits.platform]
  obtain ⟨vm', hW', X', st⟩ := X.outThrough hlocks q (g := F0 m pc ls rest) rfl rfl rfl (cell := ce) (by rw [hT]; exact hcell) (by rw [hv]; rfl)
    (by obtain ⟨k9, h9, -⟩ := Vm.findClass_spec hcl; exact ⟨k9, h9⟩) (fun z hz => by
      rcases hpass z hz with h | ⟨hz0, nm, hl1, hn1⟩
      · exact Or.inl h
      · obtain ⟨c6, hc6, hcl6⟩ := Cond.classLink_spec hown hl1 e.platform hpl
        obtain ⟨a8, b8, h1, h2, h3⟩ := hn1
        cases Option.some.inj (h1.symm.trans hcl)
        cases Option.some.inj (h2.symm.trans hc6)
        exact Or.inr ⟨hz0, _, hcl6, h3⟩)
  obtain ⟨g₀, hfr⟩ := X'.frames_eq
  have hcell9 : ((T.setVm vm').setFrames (.throwing q :: below)).heap[q]? = some ce := by
    show T.heap[q]? = some ce
    rw [hT]; exact hcell
  have hend : Ended ((T.setVm vm').setFrames (.throwing q :: below)) below (.threw q) := State.frames_setFrames _ (State.cur_lt_of_frames hfr)
  refine ⟨(T.setVm vm').setFrames (.throwing q :: below), ?_, .threw q, X'.here.running, hend, Or.inr ⟨q, rfl, E, ce, locs, hx _ hT (X'.ends _).1.alike, hcell9, hv, hcl, (X'.ends _).1, (X'.ends _).2.mono hc hs, hf⟩⟩
  rw [X.pushThrowing_eq]
  exact st
/-- a thing of a world lies in the heap -/
theorem vx_lt {D : va_G} {cl : List vw_C} {ws : va_W} {H1 : Heap} (h : va_P D cl ws H1) {k : Nat} {q : Nat × va_E} (hk : ws[k]? = some q) : q.1 < H1.size := (h k q hk).lt
end VXS
/-! ===== END ===== -/
/-! ===== BEGIN methods with a table of their own: called by a name, returning or throwing ===== -/
section VXH
/-! vx_backW, vx_callVX, vx_callSX, vx_callVW, vx_runVW, vx_runVX, vx_runSX, vx_ofWH follow the same proofs as their sisters above (Free/Laws.lean, Shelf42/LK1.lean); vx_outP calls Shelf42/NT130.lean (outThrough). -/
section
variable {l : Launch} {R : Room} {p : Program} {e : Env} {below : List Frame} {s : State} {sargs : Array Value} {y : MethodName} {len W9 : Nat}
theorem vx_backW {ws : List Cond} {rm : Room} {Pc : Array Value → State → Prop} {Qc : Array Value → State → Outcome → State → Prop} {XC : String → State → State → Prop} {mc ms : Nat} {free : Addr → Prop} {bytes : ByteArray} {maxL : Nat} {ret : Option FieldType} {hh : List (Nat × Nat × Nat × Nat)}
    (hM : vx_Met l y ws rm Pc Qc XC mc ms free) (hblind : FrameBlind Pc) (hrc : rm.cells = mc) (hrs : rm.slots = ms)
    (hframes : rm.frames + 1 ≤ R.frames) (hlocals : W9 + (maxL + 11) + rm.locals ≤ R.locals)
    (hws : ∀ w ∈ ws, ∀ a' U, s.WarmedH U.vm → w.before a' U = true) (hcode : Cond.codeWith y bytes maxL ret hh ∈ ws) (hinit : ∀ a' U, s.WarmedH U.vm → (Cond.initialized y.cls).before a' U = true) :
    vx_Back l R p e below s sargs y len W9 (PreOf R mc ms Pc) (PostOf Qc mc ms free) (vx_Post XC mc ms free) := by
  intro m meth c A g ig mk a X hg hsize hdg hW hn hp
  have h1 : (headSpec ws rm).pre.before a A.U = true := atoms_intro fun w hw => hws w hw _ _ X.warmed
  have h2 : (Cond.codeWith y bytes maxL ret hh).before a A.U = true := hws _ hcode _ _ X.warmed
  have h3 : (Cond.initialized y.cls).before a A.U = true := hinit _ _ X.warmed
  have h4 : A.cells + (headSpec ws rm).room.cells ≤ R.cells := by rw [show (headSpec ws rm).room.cells = mc from hrc]; exact hp.1
  have h5 : A.slots + (headSpec ws rm).room.slots ≤ R.slots := by rw [show (headSpec ws rm).room.slots = ms from hrs]; exact hp.2.1
  have hPc : Pc a (A.U.calling g mk a) := hblind _ _ _ _ hp.2.2
  obtain ⟨U, Ls, c0, s0⟩ := A
  dsimp only [Pt.U, Pt.locs, Pt.cells, Pt.slots] at h1 h2 h3 h4 h5 X hn hPc ⊢
  obtain ⟨m9, methY, cY, hn9, hmY, hcY, -, hlY, -⟩ := Cond.codeWith_spec h2
  cases Option.some.inj (hn9.symm.trans hn)
  obtain ⟨kY, hkY, -⟩ := className_of_methodNamed hn
  have hinitY : kY.init = .initialized := Cond.initialized_spec (findClass_of_methodNamed hn) hkY h3
  have h : At U g.method c below := by rw [hg]; exact X.here
  have hlocals9 : W9 + (maxL + 11) + (headSpec ws rm).room.locals ≤ R.locals := hlocals
  have happ : (headSpec ws rm).appliesLoose y e.platform (U.calling g mk a) = true :=
    Spec.appliesLoose_calling (g := g) h hdg hn hkY hinitY
      (X.room_calling (g := g) (R' := (headSpec ws rm).room) hsize hmY hcY hframes (by rw [hlY]; omega) h4 h5) h1
  obtain ⟨mid, hmid⟩ := h.above
  have hfr : (U.setTop g).frames = (.java g :: mid) ++ below := by rw [State.frames_setTop' g h.top, hmid]; rfl
  obtain ⟨o, s₂, hsteps, -, hend, hq⟩ := Steps.callFree hM p X.admits X.cas X.clock (acts := []) hfr happ hPc trivial
  have hq' : vx_Q Qc XC mc ms free a (U.calling g mk a) o s₂ := hq
  rw [State.frames_setTop' g h.top] at hend
  obtain ⟨g₀, hg0⟩ := Option.isSome_iff_exists.mp h.top
  obtain ⟨r, hr⟩ := State.topJava?_eq_some.mp hg0
  have hr' : (({ U with heap := s₂.heap, slotsUsed := s₂.slotsUsed } : State).setVm s₂.vm).frames = .java g₀ :: r := hr
  rcases hq' with ⟨hqc, L, hfe, hL⟩ | ⟨q, rfl, E, ce, L, hx, hce, hcv, hcl, hW₂, hsm, hL⟩
  · obtain ⟨⟨v, rfl⟩, hW₂, e2, q2, q3, q4, q5, q6⟩ := id hfe
    have e3 : s₂ = ({ (U.calling g mk a).setFrames s₂.frames with heap := s₂.heap, slotsUsed := s₂.slotsUsed } : State).setVm s₂.vm := by
      have : s₂ = ({ s₂ with vm := (U.calling g mk a).vm } : State).setVm s₂.vm := rfl
      rw [e2] at this
      exact this
    obtain ⟨c₂, i₂, len₂, hc₂, hd₂, hf₂⟩ := hend
    have hW' : U.WarmedH s₂.vm := hW₂
    have hcc : c₂ = c := by
      have h1 : s₂.code? g.method = U.code? g.method := by
        rw [State.code?_eq, State.code?_eq, hW'.alike.method?]
      exact Option.some.inj (hc₂.symm.trans (h1.trans h.code))
    subst hcc
    have hlen : len₂ = len := by rw [hdg] at hd₂; cases hd₂; rfl
    subst hlen
    have hs₂ : s₂ = (({ U with heap := s₂.heap, slotsUsed := s₂.slotsUsed } : State).setVm s₂.vm).setTop { g with pc := g.pc + len₂, stack := v.toList ++ g.stack } := by
      refine e3.trans ?_
      rw [hf₂, State.calling_eq h.top, State.setFrames_setFrames, State.setTop_of_frames _ hr', hr]
      rfl
    have hsame : U.sameButNew ({ U with heap := s₂.heap, slotsUsed := s₂.slotsUsed } : State) L mc ms := by
      refine ⟨?_, q2, q3, q4, q5, q6⟩
      obtain ⟨t, ht, -⟩ := State.frames_cons hr
      show ({ U with heap := s₂.heap, slotsUsed := s₂.slotsUsed } : State) = { U.setFrames U.frames with heap := s₂.heap, slotsUsed := s₂.slotsUsed }
      rw [State.setFrames_self ht]
    subst hg
    refine Or.inl ⟨v, ⟨(({ U with heap := s₂.heap, slotsUsed := s₂.slotsUsed } : State).setVm s₂.vm), Ls ++ L, c0 + mc, s0 + ms⟩,
      ⟨X.admits, X.cas, X.clock, X.frames, X.room, X.hears, X.method, X.code, (X.here.setHeapUsed s₂.heap s₂.slotsUsed).setVm hW'.alike, X.tail, State.WarmedH.trans X.warmed hW', X.limits, X.bytes, X.same.trans (hsame.setVm s.vm)⟩,
      ⟨g, mk, s₂, L, rfl, rfl, hqc, rfl, hL, rfl, rfl⟩, ?_⟩
    show Steps p.tables e below _ ((({ U with heap := s₂.heap, slotsUsed := s₂.slotsUsed } : State).setVm s₂.vm).setTop { g with pc := g.pc + len₂, stack := v.toList ++ g.stack })
    rw [← hs₂]
    exact hsteps
  · obtain ⟨e2, q2, q3, q4, q5, q6⟩ := id hsm
    have e3 : s₂ = ({ (U.calling g mk a).setFrames s₂.frames with heap := s₂.heap, slotsUsed := s₂.slotsUsed } : State).setVm s₂.vm := by
      have : s₂ = ({ s₂ with vm := (U.calling g mk a).vm } : State).setVm s₂.vm := rfl
      rw [e2] at this
      exact this
    have hf₂ : s₂.frames = .throwing q :: .java g :: U.frames.tail := hend
    have hW' : U.WarmedH s₂.vm := hW₂
    have hs₂ : s₂ = ((({ U with heap := s₂.heap, slotsUsed := s₂.slotsUsed } : State).setVm s₂.vm).setTop g).pushFrame (.throwing q) := by
      refine e3.trans ?_
      rw [hf₂, State.calling_eq h.top, State.setFrames_setFrames, State.pushFrame, State.frames_setTop _ hr', State.setTop_of_frames _ hr', State.setFrames_setFrames, hr]
      rfl
    have hsame : U.sameButNew ({ U with heap := s₂.heap, slotsUsed := s₂.slotsUsed } : State) L mc ms := by
      refine ⟨?_, q2, q3, q4, q5, q6⟩
      obtain ⟨t, ht, -⟩ := State.frames_cons hr
      show ({ U with heap := s₂.heap, slotsUsed := s₂.slotsUsed } : State) = { U.setFrames U.frames with heap := s₂.heap, slotsUsed := s₂.slotsUsed }
      rw [State.setFrames_self ht]
    subst hg
    refine Or.inr ⟨q, ⟨(({ U with heap := s₂.heap, slotsUsed := s₂.slotsUsed } : State).setVm s₂.vm), Ls ++ L, c0 + mc, s0 + ms⟩,
      ⟨X.admits, X.cas, X.clock, X.frames, X.room, X.hears, X.method, X.code, (X.here.setHeapUsed s₂.heap s₂.slotsUsed).setVm hW'.alike, X.tail, State.WarmedH.trans X.warmed hW', X.limits, X.bytes, X.same.trans (hsame.setVm s.vm)⟩,
      ⟨g, mk, s₂, L, E, ce, rfl, rfl, hx, hce, hcv, hcl, rfl, hL, rfl, rfl⟩, ?_⟩
    show Steps p.tables e below _ (((({ U with heap := s₂.heap, slotsUsed := s₂.slotsUsed } : State).setVm s₂.vm).setTop g).pushFrame (.throwing q))
    rw [← hs₂]
    exact hsteps
end
variable {p : Program} {l : Launch} {e : Env} {R : Room} {s : State} {m : MethodId} {args : Array Value} {below : List Frame} {meth : Method} {c : Code} {T : State} {H : Heap} {locs : List Loc} {cells slots : Nat}
theorem vx_callVX (X : Stand p l e R s m args below meth c T locs cells slots) (hexec : p.tables.exec = Jvm.exec) {own C : String} {index : Nat} {y : MethodName} {bytes : ByteArray} {maxL : Nat} {ret : Option FieldType} {hh : List (Nat × Nat × Nat × Nat)}
    (hown : s.vm.findClass own = some m.cls) (hlink : (Cond.methodLink own index y).before args s = true) (hinst : (Cond.instanceMethod y).before args s = true) (hsel : (Cond.selects C y y).before args s = true)
    (hcode : (Cond.codeWith y bytes maxL ret hh).before args s = true) (hy : y.cls ≠ "java/lang/invoke/MethodHandle" ∧ y.cls ≠ "java/lang/invoke/VarHandle")
    {W9 : Nat} {Pre : Pt → Array Value → Prop} {Post : Pt → Array Value → Option Value → Pt → Prop} {PostX : Pt → Array Value → Addr → Pt → Prop} (hK : vx_Back l R p e below s args y 3 W9 Pre Post PostX)
    {b : Addr} {cellB : Cell} (hcell : T.heap[b]? = some cellB) (hobj : cellB.vm.isStatics = false) (hcls : s.vm.findClass C = some cellB.cls)
    {g : JFrame} (hg : g.method = m) (hsize : g.locals.size = c.maxLocals) {argsL rest : List Value} (hlen : ∀ sig, parseMethodDescriptor y.desc = some sig → argsL.length = sig.parameters.length)
    (hstack : g.stack = argsL.reverse ++ .ref b :: rest) (hW : 2 * g.monitorRoom + (rest.map fun v => v.category).sum ≤ W9) (hdg : decode c.code g.pc = .ok (.invokevirtual index, 3))
    (hpre : ∀ vm₁, s.WarmedH vm₁ → Pre ⟨T.setVm vm₁, locs, cells, slots⟩ (Value.ref b :: argsL).toArray) :
    (∃ (v : Option Value) (vm₁ : Vm) (B : Pt), s.WarmedH vm₁ ∧ Stand p l e R s m args below meth c B.U B.locs B.cells B.slots ∧ Post ⟨T.setVm vm₁, locs, cells, slots⟩ (Value.ref b :: argsL).toArray v B ∧
      ∀ target, Steps p.tables e below (B.U.setTop { g with pc := g.pc + 3, stack := v.toList ++ rest }) target → Steps p.tables e below (T.setTop g) target) ∨
    (∃ (q : Addr) (vm₁ : Vm) (B : Pt), s.WarmedH vm₁ ∧ Stand p l e R s m args below meth c B.U B.locs B.cells B.slots ∧ PostX ⟨T.setVm vm₁, locs, cells, slots⟩ (Value.ref b :: argsL).toArray q B ∧
      Steps p.tables e below (T.setTop g) ((B.U.setTop { g with stack := rest }).pushFrame (.throwing q))) := by
  obtain ⟨mk, methM, hnamed, hmethM, hstM, habM⟩ := Cond.instanceMethod_spec hinst
  obtain ⟨m8, methM', cM, hn8, hmethM', -, -, -, -, -, -, hsigM⟩ := Cond.codeWith_spec hcode
  cases Option.some.inj (hn8.symm.trans hnamed)
  cases hmethM.symm.trans hmethM'
  obtain ⟨c2, r2, m2, q1, q2, q3, q4, kP, hkP, hkPi⟩ := Cond.selects_spec hsel
  cases hcls.symm.trans q1
  cases (State.methodFound?_of_named hnamed hy).symm.trans q2
  cases hnamed.symm.trans q3
  have hselP : selectMethod e.platform s.vm cellB.cls mk = .method mk := by rw [Launch.admits_selectMethod X.admits]; exact q4
  obtain ⟨vm₁, X₁, hstep₁⟩ := X.invokevirtual hexec hown hlink hnamed hmethM hstM hkP hkPi hy (a := b) (cell := cellB) hcell
    (fun z h => by rw [h] at hobj; cases hobj) hselP hmethM habM hkP hkPi (g := g) hg (argsL := argsL) (rest := rest) (hlen _ hsigM) hstack hdg
  rcases hK m meth c ⟨T.setVm vm₁, locs, cells, slots⟩ { g with stack := rest } (.invokevirtual index) mk (Value.ref b :: argsL).toArray X₁ hg hsize hdg hW (X₁.named hnamed) (hpre vm₁ X₁.warmed) with ⟨v, B, X', hpost, hsteps⟩ | ⟨q, B, X', hpost, hsteps⟩
  · exact Or.inl ⟨v, vm₁, B, X₁.warmed, X', hpost, fun target h => hstep₁ _ fun acts => by rw [doInvoke_state]; exact hsteps.trans h⟩
  · exact Or.inr ⟨q, vm₁, B, X₁.warmed, X', hpost, hstep₁ _ fun acts => by rw [doInvoke_state]; exact hsteps⟩
theorem vx_callSX (X : Stand p l e R s m args below meth c T locs cells slots) (hexec : p.tables.exec = Jvm.exec) {own : String} {index : Nat} {y : MethodName} {bytes : ByteArray} {maxL : Nat} {ret : Option FieldType} {hh : List (Nat × Nat × Nat × Nat)}
    (hown : s.vm.findClass own = some m.cls) (hlink : (Cond.methodLink own index y).before args s = true) (hstat : (Cond.static y).before args s = true) (hinit : (Cond.initialized y.cls).before args s = true)
    (hcode : (Cond.codeWith y bytes maxL ret hh).before args s = true) (hy : y.cls ≠ "java/lang/invoke/MethodHandle" ∧ y.cls ≠ "java/lang/invoke/VarHandle")
    {W9 : Nat} {Pre : Pt → Array Value → Prop} {Post : Pt → Array Value → Option Value → Pt → Prop} {PostX : Pt → Array Value → Addr → Pt → Prop} (hK : vx_Back l R p e below s args y 3 W9 Pre Post PostX)
    {g : JFrame} (hg : g.method = m) (hsize : g.locals.size = c.maxLocals) {argsL rest : List Value} (hlen : ∀ sig, parseMethodDescriptor y.desc = some sig → argsL.length = sig.parameters.length)
    (hstack : g.stack = argsL.reverse ++ rest) (hW : 2 * g.monitorRoom + (rest.map fun v => v.category).sum ≤ W9) (hdg : decode c.code g.pc = .ok (.invokestatic index, 3))
    (hpre : ∀ vm₁, s.WarmedH vm₁ → Pre ⟨T.setVm vm₁, locs, cells, slots⟩ argsL.toArray) :
    (∃ (v : Option Value) (vm₁ : Vm) (B : Pt), s.WarmedH vm₁ ∧ Stand p l e R s m args below meth c B.U B.locs B.cells B.slots ∧ Post ⟨T.setVm vm₁, locs, cells, slots⟩ argsL.toArray v B ∧
      ∀ target, Steps p.tables e below (B.U.setTop { g with pc := g.pc + 3, stack := v.toList ++ rest }) target → Steps p.tables e below (T.setTop g) target) ∨
    (∃ (q : Addr) (vm₁ : Vm) (B : Pt), s.WarmedH vm₁ ∧ Stand p l e R s m args below meth c B.U B.locs B.cells B.slots ∧ PostX ⟨T.setVm vm₁, locs, cells, slots⟩ argsL.toArray q B ∧
      Steps p.tables e below (T.setTop g) ((B.U.setTop { g with stack := rest }).pushFrame (.throwing q))) := by
  obtain ⟨mk, methM, cM, hnamed, hmethM, -, -, -, -, -, -, hsigM⟩ := Cond.codeWith_spec hcode
  have hstatic : methM.isStatic = true := Cond.static_spec hnamed hmethM hstat
  obtain ⟨kP, hkP, -⟩ := className_of_methodNamed hnamed
  have hinitP : kP.init = .initialized := Cond.initialized_spec (findClass_of_methodNamed hnamed) hkP hinit
  obtain ⟨vm₁, X₁, hstep₁⟩ := X.invokestatic hexec hown hlink hnamed hmethM hstatic hkP hinitP hy (g := g) hg (argsL := argsL) (rest := rest) (hlen _ hsigM) hstack hdg
  rcases hK m meth c ⟨T.setVm vm₁, locs, cells, slots⟩ { g with stack := rest } (.invokestatic index) mk argsL.toArray X₁ hg hsize hdg hW (X₁.named hnamed) (hpre vm₁ X₁.warmed) with ⟨v, B, X', hpost, hsteps⟩ | ⟨q, B, X', hpost, hsteps⟩
  · exact Or.inl ⟨v, vm₁, B, X₁.warmed, X', hpost, fun target h => hstep₁ _ fun acts => by rw [doInvoke_state]; exact hsteps.trans h⟩
  · exact Or.inr ⟨q, vm₁, B, X₁.warmed, X', hpost, hstep₁ _ fun acts => by rw [doInvoke_state]; exact hsteps⟩
theorem vx_callVW (X : Stand p l e R s m args below meth c T locs cells slots) (hexec : p.tables.exec = Jvm.exec) {own C : String} {index : Nat} {y : MethodName} {bytes : ByteArray} {maxL : Nat} {ret : Option FieldType} {hh : List (Nat × Nat × Nat × Nat)}
    (hown : s.vm.findClass own = some m.cls) (hlink : (Cond.methodLink own index y).before args s = true) (hinst : (Cond.instanceMethod y).before args s = true) (hsel : (Cond.selects C y y).before args s = true)
    (hcode : (Cond.codeWith y bytes maxL ret hh).before args s = true) (hy : y.cls ≠ "java/lang/invoke/MethodHandle" ∧ y.cls ≠ "java/lang/invoke/VarHandle")
    {W9 : Nat} {Pre : Pt → Array Value → Prop} {Post : Pt → Array Value → Option Value → Pt → Prop} (hK : Back l R p e below s args y 3 W9 Pre Post)
    {b : Addr} {cellB : Cell} (hcell : T.heap[b]? = some cellB) (hobj : cellB.vm.isStatics = false) (hcls : s.vm.findClass C = some cellB.cls)
    {g : JFrame} (hg : g.method = m) (hsize : g.locals.size = c.maxLocals) {argsL rest : List Value} (hlen : ∀ sig, parseMethodDescriptor y.desc = some sig → argsL.length = sig.parameters.length)
    (hstack : g.stack = argsL.reverse ++ .ref b :: rest) (hW : 2 * g.monitorRoom + (rest.map fun v => v.category).sum ≤ W9) (hdg : decode c.code g.pc = .ok (.invokevirtual index, 3))
    (hpre : ∀ vm₁, s.WarmedH vm₁ → Pre ⟨T.setVm vm₁, locs, cells, slots⟩ (Value.ref b :: argsL).toArray) :
    ∃ (v : Option Value) (vm₁ : Vm) (B : Pt), s.WarmedH vm₁ ∧ Stand p l e R s m args below meth c B.U B.locs B.cells B.slots ∧ Post ⟨T.setVm vm₁, locs, cells, slots⟩ (Value.ref b :: argsL).toArray v B ∧
      ∀ target, Steps p.tables e below (B.U.setTop { g with pc := g.pc + 3, stack := v.toList ++ rest }) target → Steps p.tables e below (T.setTop g) target := by
  obtain ⟨mk, methM, hnamed, hmethM, hstM, habM⟩ := Cond.instanceMethod_spec hinst
  obtain ⟨m8, methM', cM, hn8, hmethM', -, -, -, -, -, -, hsigM⟩ := Cond.codeWith_spec hcode
  cases Option.some.inj (hn8.symm.trans hnamed)
  cases hmethM.symm.trans hmethM'
  obtain ⟨c2, r2, m2, q1, q2, q3, q4, kP, hkP, hkPi⟩ := Cond.selects_spec hsel
  cases hcls.symm.trans q1
  cases (State.methodFound?_of_named hnamed hy).symm.trans q2
  cases hnamed.symm.trans q3
  have hselP : selectMethod e.platform s.vm cellB.cls mk = .method mk := by rw [Launch.admits_selectMethod X.admits]; exact q4
  obtain ⟨vm₁, X₁, hstep₁⟩ := X.invokevirtual hexec hown hlink hnamed hmethM hstM hkP hkPi hy (a := b) (cell := cellB) hcell
    (fun z h => by rw [h] at hobj; cases hobj) hselP hmethM habM hkP hkPi (g := g) hg (argsL := argsL) (rest := rest) (hlen _ hsigM) hstack hdg
  obtain ⟨v, B, X', hpost, hsteps⟩ := hK m meth c ⟨T.setVm vm₁, locs, cells, slots⟩ { g with stack := rest } (.invokevirtual index) mk (Value.ref b :: argsL).toArray X₁ hg hsize hdg hW (X₁.named hnamed) (hpre vm₁ X₁.warmed)
  exact ⟨v, vm₁, B, X₁.warmed, X', hpost, fun target h => hstep₁ _ fun acts => by rw [doInvoke_state]; exact hsteps.trans h⟩
abbrev vx_CVW (R : Room) (s : State) (args : Array Value) (own C : String) (index : Nat) (y : MethodName) (bytes : ByteArray) (maxL : Nat) (ret : Option FieldType) (hh : List (Nat × Nat × Nat × Nat)) (ws : List Cond) (rm : Room) (mc ms n : Nat) : Prop :=
  (rm.cells = mc ∧ rm.slots = ms ∧ rm.frames + 1 ≤ R.frames ∧ 8 + (maxL + 11) + rm.locals ≤ R.locals ∧ (∀ w ∈ ws, ∀ (a' : Array Value) (U : State), s.WarmedH U.vm → w.before a' U = true) ∧ Cond.codeWith y bytes maxL ret hh ∈ ws) ∧
  (Cond.codeWith y bytes maxL ret hh).before args s = true ∧ (Cond.initialized y.cls).before args s = true ∧ (y.cls ≠ "java/lang/invoke/MethodHandle" ∧ y.cls ≠ "java/lang/invoke/VarHandle") ∧
  (∀ sig, parseMethodDescriptor y.desc = some sig → n = sig.parameters.length) ∧ (Cond.methodLink own index y).before args s = true ∧ (Cond.instanceMethod y).before args s = true ∧ (Cond.selects C y y).before args s = true
theorem vx_cwVW {own C : String} {index maxL mc ms : Nat} {y : MethodName} {bytes : ByteArray} {ret : Option FieldType} {hh : List (Nat × Nat × Nat × Nat)} {Ts ws ws' : List Cond} {rm : Room} (n : Nat) (ht : ∀ w ∈ Ts, w.before args s = true) (hT : GoodIn Ts (wsV own index C y ws)) (hw : ws = Cond.codeWith y bytes maxL ret hh :: ws') (hrc : rm.cells = mc) (hrs : rm.slots = ms)
    (hd : y.cls = C ∧ y.cls ≠ "java/lang/invoke/MethodHandle" ∧ y.cls ≠ "java/lang/invoke/VarHandle" ∧ (parseMethodDescriptor y.desc).map (fun d => d.parameters.length) = some n) (hR : rm.frames + 1 ≤ R.frames ∧ 8 + (maxL + 11) + rm.locals ≤ R.locals) :
    vx_CVW R s args own C index y bytes maxL ret hh ws rm mc ms n := by
  obtain ⟨hC, hd⟩ := hd
  subst hC
  have ok : ∀ w ∈ wsV own index y.cls y ws, w.before args s = true := fun w h => ht w (hT w h).1
  have hG : GoodIn Ts ws := fun w h => hT w (by unfold wsV; exact List.mem_append_right _ h)
  have hc : Cond.codeWith y bytes maxL ret hh ∈ ws := by rw [hw]; exact List.mem_cons_self
  refine ⟨⟨hrc, hrs, hR.1, hR.2, pay_in ht hG, hc⟩, ht _ (hG _ hc).1, ok _ (by simp [wsV]), ⟨hd.1, hd.2.1⟩, fun sig h => ?_, ok _ (by simp [wsV]), ok _ (by simp [wsV]), ok _ (by simp [wsV])⟩
  have h2 := hd.2.2
  rw [h] at h2
  exact (Option.some.inj h2).symm
theorem vx_runVW {y : MethodName} {bytes cc : ByteArray} {maxL nL mc ms n index : Nat} {ret : Option FieldType} {hh : List (Nat × Nat × Nat × Nat)} {ws : List Cond} {rm : Room} {Pc : Array Value → State → Prop} {Qc : Array Value → State → Outcome → State → Prop} {free : Addr → Prop} {Ts : List Cond} {own C : String} {b : Addr} {As rest : List Value} {g : JFrame}
    (S : CallFix p m c cc nL s args Ts own) (hM : Met l y ws rm Pc Qc mc ms free) (cw : vx_CVW R s args own C index y bytes maxL ret hh ws rm mc ms n) (hp : PreV s H C b Pc As)
    (hg : g.method = m) (hn : As.length = n) (hsize : g.locals.size = nL) (hstack : g.stack = As.reverse ++ .ref b :: rest) (hW : 2 * g.monitorRoom + (rest.map fun v => v.category).sum ≤ 8) (hdg : decode cc g.pc = .ok (.invokevirtual index, 3)) (hf : cells + mc ≤ R.cells ∧ slots + ms ≤ R.slots) :
    va_Run p l e R s m args below meth c H locs cells slots mc ms g rest (Qc (Value.ref b :: As).toArray) free := by
  obtain ⟨⟨hrc, hrs, hfr, hlo, hws, hcw⟩, hcode, hini, hy, hlen, hl, hin, hse⟩ := cw
  have hK : Back l R p e below s args y 3 8 (PreOf R mc ms Pc) (PostOf Qc mc ms free) := va_backW (hh := hh) (bytes := bytes) (maxL := maxL) (ret := ret) hM hp.1 hrc hrs hfr hlo hws hcw (fun a' U hW => word_at hW (Or.inl (by first | rfl | simp [Cond.onTables, Cond.keeps, Cond.steady])) hini)
  obtain ⟨hx, hb, hml, ho, -⟩ := S
  obtain ⟨-, ⟨cellB, hcB, hoB, hclB⟩, hPc⟩ := hp
  intro T hT X
  obtain ⟨v, vm₁, ⟨U', l2, c2, s2⟩, hW₁, X', ⟨g', mk, t, L, e1, e2, hq, h1, hL, h2, h3⟩, st⟩ := vx_callVW X hx (C := C) (hh := hh) (bytes := bytes) (maxL := maxL) (ret := ret) ho hl hin hse hcode hy hK (by rw [hT]; exact hcB) hoB hclB hg (hsize.trans hml.symm) (argsL := As) (rest := rest) (fun sig h => hn.trans (hlen sig h)) hstack hW (by rw [hb]; exact hdg)
    (fun vm₁ hW₁ => ⟨hf.1, hf.2, hPc (T.setVm vm₁) hT hW₁⟩)
  dsimp only [Pt.U, Pt.locs, Pt.cells, Pt.slots] at X' e1 e2 h1 h2 h3 st
  subst h1; subst h2; subst h3
  exact ⟨v, (T.setVm vm₁).calling g' mk (Value.ref b :: As).toArray, t, U', L, hT, X', hL, e1, e2, hq, st⟩
section
variable {y : MethodName} {bytes cc : ByteArray} {maxL nL mc ms n index : Nat} {ret : Option FieldType} {ws : List Cond} {rm : Room} {Pc : Array Value → State → Prop} {Qc : Array Value → State → Outcome → State → Prop} {XC : String → State → State → Prop} {free : Addr → Prop} {Ts : List Cond} {own C : String} {b : Addr} {As rest : List Value} {g : JFrame}
theorem vx_runVX {hh : List (Nat × Nat × Nat × Nat)} (S : CallFix p m c cc nL s args Ts own) (hM : vx_Met l y ws rm Pc Qc XC mc ms free) (cw : vx_CVW R s args own C index y bytes maxL ret hh ws rm mc ms n) (hp : PreV s H C b Pc As)
    (hg : g.method = m) (hn : As.length = n) (hsize : g.locals.size = nL) (hstack : g.stack = As.reverse ++ .ref b :: rest) (hW : 2 * g.monitorRoom + (rest.map fun v => v.category).sum ≤ 8) (hdg : decode cc g.pc = .ok (.invokevirtual index, 3)) (hf : cells + mc ≤ R.cells ∧ slots + ms ≤ R.slots) :
    vx_Run p l e R s m args below meth c H locs cells slots mc ms g rest (Qc (Value.ref b :: As).toArray) XC free := by
  obtain ⟨⟨hrc, hrs, hfr, hlo, hws, hcw⟩, hcode, hini, hy, hlen, hl, hin, hse⟩ := cw
  have hK : vx_Back l R p e below s args y 3 8 (PreOf R mc ms Pc) (PostOf Qc mc ms free) (vx_Post XC mc ms free) := vx_backW (hh := hh) (bytes := bytes) (maxL := maxL) (ret := ret) hM hp.1 hrc hrs hfr hlo hws hcw (fun a' U hW => word_at hW (Or.inl (by first | rfl | simp [Cond.onTables, Cond.keeps, Cond.steady])) hini)
  obtain ⟨hx, hb, hml, ho, -⟩ := S
  obtain ⟨-, ⟨cellB, hcB, hoB, hclB⟩, hPc⟩ := hp
  intro T hT X
  rcases vx_callVX X hx (C := C) (hh := hh) (bytes := bytes) (maxL := maxL) (ret := ret) ho hl hin hse hcode hy hK (by rw [hT]; exact hcB) hoB hclB hg (hsize.trans hml.symm) (argsL := As) (rest := rest) (fun sig h => hn.trans (hlen sig h)) hstack hW (by rw [hb]; exact hdg)
    (fun vm₁ hW₁ => ⟨hf.1, hf.2, hPc (T.setVm vm₁) hT hW₁⟩) with ⟨v, vm₁, ⟨U', l2, c2, s2⟩, hW₁, X', ⟨g', mk, t, L, e1, e2, hq, h1, hL, h2, h3⟩, st⟩ | ⟨q, vm₁, ⟨U', l2, c2, s2⟩, hW₁, X', ⟨g', mk, t, L, E, ce, e1, e2, hq, hce, hcv, hcl, h1, hL, h2, h3⟩, st⟩
  · dsimp only [Pt.U, Pt.locs, Pt.cells, Pt.slots] at X' e1 e2 h1 h2 h3 st
    subst h1; subst h2; subst h3
    exact Or.inl ⟨v, (T.setVm vm₁).calling g' mk (Value.ref b :: As).toArray, t, U', L, hT, X', hL, e1, e2, hq, st⟩
  · dsimp only [Pt.U, Pt.locs, Pt.cells, Pt.slots] at X' e1 e2 h1 h2 h3 st hcl
    subst h1; subst h2; subst h3
    exact Or.inr ⟨q, (T.setVm vm₁).calling g' mk (Value.ref b :: As).toArray, t, U', L, E, ce, hT, X', hL, e1, e2, hq, hce, hcv, vx_cls hW₁ hcl, st⟩
theorem vx_runSX {hh : List (Nat × Nat × Nat × Nat)} (S : CallFix p m c cc nL s args Ts own) (hM : vx_Met l y ws rm Pc Qc XC mc ms free) (cw : vx_CSW R s args own index y bytes maxL ret hh ws rm mc ms n) (hp : PreS s H Pc As)
    (hg : g.method = m) (hn : As.length = n) (hsize : g.locals.size = nL) (hstack : g.stack = As.reverse ++ rest) (hW : 2 * g.monitorRoom + (rest.map fun v => v.category).sum ≤ 8) (hdg : decode cc g.pc = .ok (.invokestatic index, 3)) (hf : cells + mc ≤ R.cells ∧ slots + ms ≤ R.slots) :
    vx_Run p l e R s m args below meth c H locs cells slots mc ms g rest (Qc As.toArray) XC free := by
  obtain ⟨⟨hrc, hrs, hfr, hlo, hws, hcw⟩, hcode, hini, hy, hlen, hl, hstt⟩ := cw
  have hK : vx_Back l R p e below s args y 3 8 (PreOf R mc ms Pc) (PostOf Qc mc ms free) (vx_Post XC mc ms free) := vx_backW (hh := hh) (bytes := bytes) (maxL := maxL) (ret := ret) hM hp.1 hrc hrs hfr hlo hws hcw (fun a' U hW => word_at hW (Or.inl (by first | rfl | simp [Cond.onTables, Cond.keeps, Cond.steady])) hini)
  obtain ⟨hx, hb, hml, ho, -⟩ := S
  intro T hT X
  rcases vx_callSX X hx (hh := hh) (bytes := bytes) (maxL := maxL) (ret := ret) ho hl hstt hini hcode hy hK hg (hsize.trans hml.symm) (argsL := As) (rest := rest) (fun sig h => hn.trans (hlen sig h)) hstack hW (by rw [hb]; exact hdg)
    (fun vm₁ hW₁ => ⟨hf.1, hf.2, hp.2 (T.setVm vm₁) hT hW₁⟩) with ⟨v, vm₁, ⟨U', l2, c2, s2⟩, hW₁, X', ⟨g', mk, t, L, e1, e2, hq, h1, hL, h2, h3⟩, st⟩ | ⟨q, vm₁, ⟨U', l2, c2, s2⟩, hW₁, X', ⟨g', mk, t, L, E, ce, e1, e2, hq, hce, hcv, hcl, h1, hL, h2, h3⟩, st⟩
  · dsimp only [Pt.U, Pt.locs, Pt.cells, Pt.slots] at X' e1 e2 h1 h2 h3 st
    subst h1; subst h2; subst h3
    exact Or.inl ⟨v, (T.setVm vm₁).calling g' mk As.toArray, t, U', L, hT, X', hL, e1, e2, hq, st⟩
  · dsimp only [Pt.U, Pt.locs, Pt.cells, Pt.slots] at X' e1 e2 h1 h2 h3 st hcl
    subst h1; subst h2; subst h3
    exact Or.inr ⟨q, (T.setVm vm₁).calling g' mk As.toArray, t, U', L, E, ce, hT, X', hL, e1, e2, hq, hce, hcv, vx_cls hW₁ hcl, st⟩
end
end VXH
theorem vx_ofWH {l : Launch} {y : MethodName} {ws ws' : List Cond} {rm : Room} {Pc : Array Value → State → Prop} {Qc : Array Value → State → Outcome → State → Prop} {XC : String → State → State → Prop} {mc ms : Nat} {free : Addr → Prop} {cc : ByteArray} {maxL : Nat} {ret : Option FieldType} {hh : List (Nat × Nat × Nat × Nat)}
    (hy : plainName y.cls = true) (hw : ws = Cond.codeWith y cc maxL ret hh :: ws')
    (body : ∀ p e s m args below meth c s₁, BodyLoose p l y (headSpec ws rm) cc maxL ret e s m args below meth c s₁ → c.maxLocals = maxL → Pc args s →
      W p l e (headSpec ws rm).room s m args below meth c s.heap [] 0 0 (vx_MQ below Qc XC args s mc ms free) (entryFrame m args maxL)) : vx_Met l y ws rm Pc Qc XC mc ms free := by
  refine MetFree.of_bodyS (code := cc) (maxLocals := maxL) (ret := ret) hy ?_ ?_
  · intro args s m h hn
    obtain ⟨m9, meth, c, hn9, h1, h2, h3, h4, -, h5, h6, -⟩ := Cond.codeWith_spec (atoms_spec (ws := ws) h _ (by rw [hw]; exact List.mem_cons_self))
    cases hn.symm.trans hn9
    exact ⟨meth, c, h1, h2, h3, h4, h5, h6⟩
  · intro p e s m args below meth c s₁ B hml hP _
    have hh0 : s₁.heap = s.heap := by rw [B.state]; rfl
    obtain ⟨t, a1, o, b1, b2, b3⟩ := body p e s m args below meth c s₁ B hml hP s₁ hh0 (Stand.of_body B)
    exact ⟨t, o, a1, b1, b2, b3⟩
/-! ===== END ===== -/

/-! ===== BEGIN what the machine throws by itself, no traces kept ===== -/
section VXM
set_option maxHeartbeats 1000000 in
/-- the machine throws cls with the message text, no traces kept: from its note over the frame g to 'throwing' over the same frame (follows the proofs of Stand.vmThrowsMessage, Shelf/KitTracedVmS.lean, and Stand.throwsMessageColdBareV, StandMessageColdV.lean, without the step out of the frame) -/
theorem vx_vmAt {p : Program} {l : Launch} {e : Env} {R : Room} {s : State} {m₀ : MethodId} {args : Array Value} {below : List Frame} {meth : Method} {c : Code} {W : State} {locs : List Loc} {cells slots : Nat}
    (X : Stand p l e R s m₀ args below meth c W locs cells slots) (hexec : p.tables.exec = Jvm.exec) (htr : e.platform.stackTraces = false) {cls : String} {names : List String} {text : String}
    (hcls : Bundle.fit cls = true) (hnames : ∀ n ∈ names, Bundle.fit n = true) (hsoe : (cls == "java/lang/StackOverflowError") = false) (hoom : (cls == "java/lang/OutOfMemoryError") = false)
    (h : ∀ a ∈ Bundle.messageArmAtoms cls names, a.before args s = true)
    (hlocs : ∀ x ∈ locs, ∀ cell, s.heap[x.base]? = some cell → cell.vm.isStatics = false)
    (htext : (text == notModelled) = false) (hlimit : ¬ (stringBytes (stringToUtf16 text)).size > e.platform.arrayLengthLimit) (hheap : ¬ (stringBytes (stringToUtf16 text)).size * componentBytes .byte > e.platform.maxHeapBytes)
    {g : JFrame} (hg : g.method = m₀) (hsize : g.locals.size = c.maxLocals)
    (hRframes : names.length + 4 < R.frames) (hRlocals : 2 * g.monitorRoom + (g.stack.map fun v => v.category).sum + 10240 ≤ R.locals) (hshort : 13 * names.length + 55 ≤ 10240)
    (hRcells : cells + 3 ≤ R.cells) (hRslots : slots + ((stringBytes (stringToUtf16 text)).size + 4 + 6) ≤ R.slots) (hlocks : meth.locks = false) :
    ∃ (S : State) (q : Addr) (ce : Cell), (∀ target, Steps p.tables e below ((S.setTop g).pushFrame (.throwing q)) target → Steps p.tables e below ((W.setTop g).pushFrame (.throwNew cls (some text) none)) target) ∧
      Stand p l e R s m₀ args below meth c S locs (cells + 3) (slots + ((stringBytes (stringToUtf16 text)).size + 4 + 6)) ∧ S.heap[q]? = some ce ∧ s.vm.findClass cls = some ce.cls ∧ ce.vm = .none := by
  have howns : e.platform.frameOwnsMonitors = true := by rw [X.admits.platform]
  have hfin : e.platform.finalization = false := by rw [X.admits.platform]
  have hpl : e.platform.magicAccessors = ({} : Platform).magicAccessors := by rw [X.admits.platform]
  have a : ∀ x, x ∈ Bundle.messageArmAtoms cls names → x.holds args s none s [] = true := fun x hx => h x hx
  obtain ⟨T, Z0, L, -, Y⟩ := ThrowableC.of_atoms (args := args) howns hfin hpl (fun x hx => h x (by simp [Bundle.messageArmAtoms, hx]))
  obtain ⟨Z, M, LZ, LM, hnZ⟩ := Init0T.ofS_atoms (args := args) hpl L Y (fun x hx => h x (by simp [Bundle.messageArmAtoms, hx]))
  obtain ⟨P1, Ps, hlen, L1, hL, hP1m, hlink1, hlink⟩ := Bundle.chainS (args := args) hpl hnZ names cls hcls hnames (fun x hx => h x (by simp [Bundle.messageArmAtoms, hx]))
  obtain ⟨Zs, LZs, hn4, hfitv, hfitc⟩ := StringT.of_atoms (args := args) (fun x hx => h x (by simp [Bundle.messageArmAtoms, hx]))
  have hfound : s.vm.findClass cls = some P1.m.cls := findClass_of_methodNamed hP1m
  obtain ⟨c1, kX, hc1, hk, hord, -, -, hn6⟩ := Cond.instantiable_spec (a (.instantiable cls 6) (by simp [Bundle.messageArmAtoms]))
  cases Option.some.inj (hc1.symm.trans hfound)
  have hinit := Cond.initialized_spec hfound hk (a (.initialized cls) (by simp [Bundle.messageArmAtoms]))
  have hctor : kX.findMethod "<init>" "(Ljava/lang/String;)V" = some P1.m.idx := findMethod_of_methodNamed hP1m hk
  have hsel0 : selectMethod e.platform s.vm P1.m.cls T.fill0 = .method T.fill0 := by
    obtain ⟨c2, r2, m2, q1, q2, q3, q4, -⟩ := Cond.selects_spec (a (.selects cls Bundle.tFill0 Bundle.tFill0) (by simp [Bundle.messageArmAtoms]))
    cases Option.some.inj (q1.symm.trans hfound)
    cases Option.some.inj (q2.symm.trans (State.methodFound?_of_named Y.fill0 (by decide)))
    cases Option.some.inj (q3.symm.trans Y.fill0)
    rw [Launch.admits_selectMethod X.admits]; exact q4
  have hselF : selectMethod e.platform s.vm P1.m.cls T.fill = .method T.fill := by
    obtain ⟨c2, r2, m2, q1, q2, q3, q4, -⟩ := Cond.selects_spec (a (.selects cls Bundle.tFill Bundle.tFill) (by simp [Bundle.messageArmAtoms]))
    cases Option.some.inj (q1.symm.trans hfound)
    cases Option.some.inj (q2.symm.trans (State.methodFound?_of_named Y.fill (by decide)))
    cases Option.some.inj (q3.symm.trans Y.fill)
    rw [Launch.admits_selectMethod X.admits]; exact q4
  obtain ⟨cellS0, hcS0, hiss⟩ := Y.statics
  obtain ⟨u0, hu0⟩ := Cond.staticRefV Y.unassigned L.unassignedStatic L.statics hcS0 hiss (a (.isRef (.static Bundle.tN "UNASSIGNED_STACK" Bundle.steD)) (by simp [Bundle.messageArmAtoms]))
  obtain ⟨sen, hsen⟩ := Cond.staticRefV Y.sentinel L.sentinelStatic L.statics hcS0 hiss (a (.isRef (.static Bundle.tN "SUPPRESSED_SENTINEL" Bundle.listD)) (by simp [Bundle.messageArmAtoms]))
  obtain ⟨ci198, i198, fB, hk198, hg198, ha198, hsB, -, hnB, htB, hffB⟩ := Cond.ownField (t := .object "java/lang/Object") Y.found L.cls (by decide +kernel) (a (.fieldLink Bundle.tN 198 Bundle.tN "backtrace" "Ljava/lang/Object;") (by simp [Bundle.messageArmAtoms])) (a (.lays Bundle.tN Bundle.tN "backtrace" "Ljava/lang/Object;") (by simp [Bundle.messageArmAtoms])) e.platform hpl
  obtain ⟨cellS, hcS', heS, -, hkeep⟩ := X.same.2.2.2.2.2 T.aS cellS0 hcS0
  have hcellS : W.heap[T.aS]? = some cellS := hcS'
  have hout' : ∀ i, (⟨T.aS, i⟩ : Loc) ∉ locs := fun i hmem => by
    have := hlocs _ hmem cellS0 hcS0
    rw [hiss] at this; cases this
  have hknownS : cellS.vm ≠ .unknown := by
    rw [heS]; intro hu
    rw [show cellS0.vm = .unknown from hu] at hiss
    cases hiss
  have hvU : cellS.slots[T.fUnassigned.slot]? = some u0.v := by rw [hkeep _ (hout' _)]; exact hu0
  have hvSen : cellS.slots[T.fSentinel.slot]? = some sen.v := by rw [hkeep _ (hout' _)]; exact hsen
  obtain ⟨iM, hffM⟩ := Y.msg
  obtain ⟨tyC, dC, hdC, hdnC⟩ := Cond.laysAt hfound hk Y.cause (a (.lays cls Bundle.tN "cause" "Ljava/lang/Throwable;") (by simp [Bundle.messageArmAtoms]))
  obtain ⟨tyS, dS, hdS, hdnS⟩ := Cond.laysAt hfound hk Y.stack (a (.lays cls Bundle.tN "stackTrace" Bundle.steD) (by simp [Bundle.messageArmAtoms]))
  obtain ⟨tyP, dP, hdP, hdnP⟩ := Cond.laysAt hfound hk Y.supp (a (.lays cls Bundle.tN "suppressedExceptions" Bundle.listD) (by simp [Bundle.messageArmAtoms]))
  obtain ⟨tyM, dM, hdM, hdnM⟩ := Cond.laysAt hfound hk hffM (a (.lays cls Bundle.tN "detailMessage" "Ljava/lang/String;") (by simp [Bundle.messageArmAtoms]))
  obtain ⟨tyB, dB, hdB, hdnB⟩ := Cond.laysAt hfound hk hffB (a (.lays cls Bundle.tN "backtrace" "Ljava/lang/Object;") (by simp [Bundle.messageArmAtoms]))
  have bC := Cond.laysApart hdB hdC hdnB hdnC (by rw [hnB, Y.causeName]; decide)
  have bS := Cond.laysApart hdB hdS hdnB hdnS (by rw [hnB, Y.stackName]; decide)
  have bP := Cond.laysApart hdB hdP hdnB hdnP (by rw [hnB, Y.suppName]; decide)
  have hbk : ((preparedCellV T.toThrowableT (freshCell P1.m.cls kX) (W.heap.size + 2) u0 sen).withEntry W.cur).slots[fB.slot]? = some .null := by
    have := fresh_default (c := P1.m.cls) tyB
    rw [htB] at this
    simpa [preparedCellV, Cell.setSlot, Cell.withEntry, Array.getElem?_setIfInBounds, bC, bS, bP, bC.symm, bS.symm, bP.symm, defaultValue] using this
  have tkC := Takes.of_laid (v := .ref (W.heap.size + 2)) hk hord tyC (by rw [Y.causeType]; rfl)
  have tkS := Takes.of_laid (v := u0.v) hk hord tyS (by rw [Y.stackType]; exact fits_refV_array _ u0)
  have tkP := Takes.of_laid (v := sen.v) hk hord tyP (by rw [Y.suppType]; exact fits_refV_object _ sen)
  have tkM := Takes.of_laid (v := .ref (W.heap.size + 1)) hk hord tyM (by rw [Y.msgType]; rfl)
  have hskip : SkipFacts T e.platform s (fun u => u) u0 ((preparedCellV T.toThrowableT (freshCell P1.m.cls kX) (W.heap.size + 2) u0 sen).withEntry W.cur) := ⟨{ ci198 := ci198, i198 := i198, fBack := fB }, ⟨hk198, hg198, ha198, hsB⟩, hbk, fun _ _ => rfl⟩
  have h0 : At W g.method c below := by rw [hg]; exact X.here
  obtain ⟨hbeyond, hfreeW⟩ := X.vmMayThrow hsize (.throwNew cls (some text) none) (fun f hf => by cases hf) rfl hRlocals
  have hfr' : W.frames.length + Ps.length + 4 < (e.platform.stackLimits W.me).1 := by have := X.framesAbove hRframes; omega
  have hwd' : (stackUse (.java g :: W.frames.tail)).2 + 13 * Ps.length + 55 ≤ (e.platform.stackLimits W.me).2 := by have := X.stackAbove hsize (K := 13 * Ps.length + 55) (by omega); omega
  have hslots : W.slotsUsed + (stringBytes (stringToUtf16 text)).size + Zs.kS.instanceTypes.size + kX.instanceTypes.size ≤ e.platform.maxSlots := by
    have := X.slotsAbove hRslots
    rw [hn4, hn6]
    omega
  obtain ⟨vm', hW', st⟩ := Steps.vmThrowsMessageColdByV p (s₀ := s) (S := W) (g := g) h0 hexec T L Z LZ M LM X.warmed (t := W.cur) rfl Zs LZs P1 L1 Ps hL hlink1 hlink hsoe hoom hfound hk hinit hord hctor
    (Launch.admits_hotImplicitExceptions X.admits) hbeyond hfreeW htext hlimit hheap (X.cellsAbove hRcells) hslots (hfitv _) (hfitc _)
    (Nn := fun u => u) heapOnly_id (fun _ _ => rfl) (fun _ => rfl) (fun u x y => setCell_twice _ _ _ _) (fun _ => Nat.le_refl _) (cN := ((preparedCellV T.toThrowableT (freshCell P1.m.cls kX) (W.heap.size + 2) u0 sen).withEntry W.cur))
    hsel0 hcellS hknownS hvU tkS (fun _ hu => hu) (fun _ hu => hu) rfl rfl rfl (by simp [preparedCellV, Cell.setSlot, Cell.withEntry]) hskip (fun _ _ hA hW _ hroom _ hrest => L.nativeOff p htr hA hW hroom hrest) hselF hvSen tkC tkP tkM Y.objLocals rfl hfr' hwd'
  rw [plainBareV_eq T.toThrowableT (W.heap.size + 2) u0 sen (.ref (W.heap.size + 1)) W.cur rfl rfl] at st
  obtain ⟨-, -, w3, w4, -, -, -⟩ := withThrown_facts e.platform W Zs text P1.m.cls kX
  have X3 := ((X.pushed (bytesOf Zs.cB (stringToUtf16 text))).pushed (stringAt Zs.cS Zs.kS Zs.fv Zs.fc (stringToUtf16 text) W.heap.size)).pushed (freshCell P1.m.cls kX)
  rw [← withString_eq] at X3
  have X4 := X3.noted hW'
  have ha : (W.heap.size + 2) < ((withThrown W Zs text P1.m.cls kX).setVm vm').heap.size := by show _ < (withThrown W Zs text P1.m.cls kX).heap.size; rw [w3]; omega
  have hcell : ((withThrown W Zs text P1.m.cls kX).setVm vm').heap[(W.heap.size + 2)]? = some (freshCell P1.m.cls kX) := w4
  have X5 := ((((X4.stored hcell T.fCause.slot (.ref (W.heap.size + 2))).storedAgain ha T.fStack.slot u0.v).storedAgain ha T.fSupp.slot sen.v).storedAgain ha T.fStack.slot u0.v).storedAgain ha T.fMsg.slot (.ref (W.heap.size + 1))
  obtain ⟨g₁, hfrM⟩ := X5.frames_eq
  have hU : ((((withThrown W Zs text P1.m.cls kX).setVm vm').setCell (W.heap.size + 2) (plainBareV T.toThrowableT (freshCell P1.m.cls kX) (W.heap.size + 2) u0 sen (.ref (W.heap.size + 1)))).setTop g).pushFrame (.throwing (W.heap.size + 2)) = (((withThrown W Zs text P1.m.cls kX).setVm vm').setCell (W.heap.size + 2) (plainBareV T.toThrowableT (freshCell P1.m.cls kX) (W.heap.size + 2) u0 sen (.ref (W.heap.size + 1)))).setFrames (.throwing (W.heap.size + 2) :: .java g :: below) := by
    rw [State.pushFrame, State.frames_setTop _ hfrM, State.setTop_of_frames _ hfrM, State.setFrames_setFrames]
  have b1 : (bytesOf Zs.cB (stringToUtf16 text)).slots.size = (stringBytes (stringToUtf16 text)).size := by
    rw [(Cell.writeAll_facts _ _).2.2]; simp [bytes0]
  have b2 : (stringAt Zs.cS Zs.kS Zs.fv Zs.fc (stringToUtf16 text) W.heap.size).slots.size = 4 := by simp [string0, Cell.setSlot, hn4]
  have b3 : (freshCell P1.m.cls kX).slots.size = 6 := by simp [hn6]
  rw [b1, b2, b3] at X5
  have e9 : slots + (stringBytes (stringToUtf16 text)).size + 4 + 6 = slots + ((stringBytes (stringToUtf16 text)).size + 4 + 6) := by omega
  rw [e9] at X5
  simp only [List.append_assoc, List.cons_append, List.nil_append] at X5
  refine ⟨((withThrown W Zs text P1.m.cls kX).setVm vm').setCell (W.heap.size + 2) (plainBareV T.toThrowableT (freshCell P1.m.cls kX) (W.heap.size + 2) u0 sen (.ref (W.heap.size + 1))), W.heap.size + 2, _, fun target ht => st _ (by rw [X.tail, ← hU]; exact ht),
    X5.forget (fun y hy => ?_), heapAt_setCell_self _ ha, hfound, rfl⟩
  simp only [List.mem_cons, List.not_mem_nil, or_false] at hy
  have hge : s.heap.size ≤ W.heap.size := X.same.2.1
  rcases hy with rfl | rfl | rfl | rfl | rfl <;> exact Nat.le_trans hge (Nat.le_add_right _ 2)
set_option maxHeartbeats 1000000 in
/-- the machine throws NullPointerException, no traces kept: from its note over the frame g to 'throwing' over the same frame (follows the proof of Stand.vmThrowsNpe, Shelf42/KT2.lean; throwsNpeColdBareVAt, Shelf42/NT91.lean, called) -/
theorem vx_npeAt {p : Program} {l : Launch} {e : Env} {R : Room} {s : State} {m₀ : MethodId} {args : Array Value} {below : List Frame} {meth : Method} {c : Code} {W : State} {locs : List Loc} {cells slots : Nat}
    (X : Stand p l e R s m₀ args below meth c W locs cells slots) (hexec : p.tables.exec = Jvm.exec) (htr : e.platform.stackTraces = false) {n : Nat}
    (h : ∀ a ∈ Bundle.npeArmAtoms n, a.before args s = true)
    (hlocs : ∀ x ∈ locs, ∀ cell, s.heap[x.base]? = some cell → cell.vm.isStatics = false)
    {g : JFrame} (hg : g.method = m₀) (hsize : g.locals.size = c.maxLocals)
    (hRframes : 7 < R.frames) (hRlocals : 2 * g.monitorRoom + (g.stack.map fun v => v.category).sum + 10240 ≤ R.locals)
    (hRcells : cells + 1 ≤ R.cells) (hRslots : slots + n ≤ R.slots) (hlocks : meth.locks = false) :
    ∃ (S : State) (q : Addr) (ce : Cell), (∀ target, Steps p.tables e below ((S.setTop g).pushFrame (.throwing q)) target → Steps p.tables e below ((W.setTop g).pushFrame (.throwNew "java/lang/NullPointerException" none none)) target) ∧
      Stand p l e R s m₀ args below meth c S locs (cells + 1) (slots + n) ∧ S.heap[q]? = some ce ∧ s.vm.findClass "java/lang/NullPointerException" = some ce.cls ∧ ce.vm = .none := by
  have howns : e.platform.frameOwnsMonitors = true := by rw [X.admits.platform]
  have hfin : e.platform.finalization = false := by rw [X.admits.platform]
  have hpl : e.platform.magicAccessors = ({} : Platform).magicAccessors := by rw [X.admits.platform]
  have hpl2 : e.platform.arrayCloneIsPublic = true := by rw [X.admits.platform]
  have a' : ∀ x, x ∈ Bundle.npeArmAtoms n → x.holds args s none s [] = true := fun x hx => h x hx
  obtain ⟨T, Z, L, LZ, Y⟩ := ThrowableC.of_atoms (args := args) howns hfin hpl (fun x hx => h x (by simp [Bundle.npeArmAtoms, hx]))
  obtain ⟨N, LN, hcN, hnNF, hordN, hffS⟩ := NpeC.of_atoms (args := args) hpl hpl2 L Y (fun x hx => h x (by simp [Bundle.npeArmAtoms, hx]))
  obtain ⟨P1, L1, hP1m, hP1s⟩ := PassC.of_atoms (args := args) (s := s) hpl (X := Bundle.nN) (Y := Bundle.rN) (by decide) (by decide) LibCode.NullPointerException.Init0.at_0 LibCode.NullPointerException.Init0.at_1 LibCode.NullPointerException.Init0.at_4 (fun x hx => h x (by simp [Bundle.npeArmAtoms, hx]))
  obtain ⟨PR, LR, hPRm, hPRs⟩ := PassC.of_atoms (args := args) (s := s) hpl (X := Bundle.rN) (Y := Bundle.eN) (by decide) (by decide) LibCode.RuntimeException.Init0.at_0 LibCode.RuntimeException.Init0.at_1 LibCode.RuntimeException.Init0.at_4 (fun x hx => h x (by simp [Bundle.npeArmAtoms, hx]))
  obtain ⟨PE, LEx, hPEm, hPEs⟩ := PassC.of_atoms (args := args) (s := s) hpl (X := Bundle.eN) (Y := Bundle.tN) (by decide) (by decide) LibCode.Exception.Init0.at_0 LibCode.Exception.Init0.at_1 LibCode.Exception.Init0.at_4 (fun x hx => h x (by simp [Bundle.npeArmAtoms, hx]))
  have hfound : s.vm.findClass Bundle.nN = some P1.m.cls := findClass_of_methodNamed hP1m
  have ecls : N.cN = P1.m.cls := Option.some.inj (hcN.symm.trans hfound)
  have hk : s.vm.classes[P1.m.cls]? = some N.kN := by rw [← ecls]; exact LN.cls
  have hinit := Cond.initialized_spec hfound hk (a' (.initialized Bundle.nN) (by simp [Bundle.npeArmAtoms]))
  have hctor : N.kN.findMethod "<init>" "()V" = some P1.m.idx := findMethod_of_methodNamed hP1m hk
  obtain ⟨c1, k1, hc1, hk1, -, -, -, hn⟩ := Cond.instantiable_spec (a' (.instantiable Bundle.nN n) (by simp [Bundle.npeArmAtoms]))
  cases Option.some.inj (hc1.symm.trans hfound)
  cases Option.some.inj (hk1.symm.trans hk)
  have hfsz : (freshCell P1.m.cls N.kN).slots.size = n := by simp [hn]
  have hlink1 : P1.sup = PR.m := Option.some.inj (hP1s.symm.trans hPRm)
  have hlinkR : PR.sup = PE.m := Option.some.inj (hPRs.symm.trans hPEm)
  have hlinkE : PE.sup = Z.m T.toThrowableT := Option.some.inj (hPEs.symm.trans Y.init0)
  have hLs : ∀ P, P ∈ [PR, PE] → P.Links0 e.platform s := fun P hP => by
    simp only [List.mem_cons, List.not_mem_nil, or_false] at hP
    rcases hP with rfl | rfl
    · exact LR
    · exact LEx
  have hsel0 : selectMethod e.platform s.vm P1.m.cls T.fill0 = .method T.fill0 := by
    obtain ⟨c2, r2, m2, q1, q2, q3, q4, -⟩ := Cond.selects_spec (a' (.selects Bundle.nN Bundle.tFill0 Bundle.tFill0) (by simp [Bundle.npeArmAtoms]))
    cases Option.some.inj (q1.symm.trans hfound)
    cases Option.some.inj (q2.symm.trans (State.methodFound?_of_named Y.fill0 (by decide)))
    cases Option.some.inj (q3.symm.trans Y.fill0)
    rw [Launch.admits_selectMethod X.admits]; exact q4
  have hselF : selectMethod e.platform s.vm P1.m.cls T.fill = .method N.fill := by
    obtain ⟨c2, r2, m2, q1, q2, q3, q4, -⟩ := Cond.selects_spec (a' (.selects Bundle.nN Bundle.tFill Bundle.nFill) (by simp [Bundle.npeArmAtoms]))
    cases Option.some.inj (q1.symm.trans hfound)
    cases Option.some.inj (q2.symm.trans (State.methodFound?_of_named Y.fill (by decide)))
    cases Option.some.inj (q3.symm.trans hnNF)
    rw [Launch.admits_selectMethod X.admits]; exact q4
  obtain ⟨cellS0, hcS0, hiss⟩ := Y.statics
  obtain ⟨u0, hu0⟩ := Cond.staticRefV Y.unassigned L.unassignedStatic L.statics hcS0 hiss (a' (.isRef (.static Bundle.tN "UNASSIGNED_STACK" Bundle.steD)) (by simp [Bundle.npeArmAtoms]))
  obtain ⟨sen, hsen⟩ := Cond.staticRefV Y.sentinel L.sentinelStatic L.statics hcS0 hiss (a' (.isRef (.static Bundle.tN "SUPPRESSED_SENTINEL" Bundle.listD)) (by simp [Bundle.npeArmAtoms]))
  obtain ⟨ci198, i198, fB, hk198, hg198, ha198, hsB, -, hnB, htB, hffB⟩ := Cond.ownField (t := .object "java/lang/Object") Y.found L.cls (by decide +kernel) (a' (.fieldLink Bundle.tN 198 Bundle.tN "backtrace" Bundle.objD) (by simp [Bundle.npeArmAtoms])) (a' (.lays Bundle.tN Bundle.tN "backtrace" Bundle.objD) (by simp [Bundle.npeArmAtoms])) e.platform hpl
  obtain ⟨cellS, hcS', heS, -, hkeep⟩ := X.same.2.2.2.2.2 T.aS cellS0 hcS0
  have hcellS : W.heap[T.aS]? = some cellS := hcS'
  have hout' : ∀ i, (⟨T.aS, i⟩ : Loc) ∉ locs := fun i hmem => by
    have := hlocs _ hmem cellS0 hcS0
    rw [hiss] at this; cases this
  have hknownS : cellS.vm ≠ .unknown := by
    rw [heS]; intro hu
    rw [show cellS0.vm = .unknown from hu] at hiss
    cases hiss
  have hvU : cellS.slots[T.fUnassigned.slot]? = some u0.v := by rw [hkeep _ (hout' _)]; exact hu0
  have hvSen : cellS.slots[T.fSentinel.slot]? = some sen.v := by rw [hkeep _ (hout' _)]; exact hsen
  obtain ⟨tyC, dC, hdC, hdnC⟩ := Cond.laysAt hfound hk Y.cause (a' (.lays Bundle.nN Bundle.tN "cause" "Ljava/lang/Throwable;") (by simp [Bundle.npeArmAtoms]))
  obtain ⟨tyS, dS, hdS, hdnS⟩ := Cond.laysAt hfound hk Y.stack (a' (.lays Bundle.nN Bundle.tN "stackTrace" Bundle.steD) (by simp [Bundle.npeArmAtoms]))
  obtain ⟨tyP, dP, hdP, hdnP⟩ := Cond.laysAt hfound hk Y.supp (a' (.lays Bundle.nN Bundle.tN "suppressedExceptions" Bundle.listD) (by simp [Bundle.npeArmAtoms]))
  obtain ⟨tyX, dX, hdX, hdnX⟩ := Cond.laysAt hfound hk hffS (a' (.lays Bundle.nN Bundle.nN "extendedMessageState" "I") (by simp [Bundle.npeArmAtoms, Bundle.npeAtoms]))
  obtain ⟨hnX, htX⟩ := State.fieldFound?_type hffS (t := .int) (by decide +kernel)
  have xC := Cond.laysApart hdC hdX hdnC hdnX (by rw [hnX, Y.causeName]; decide)
  have xS := Cond.laysApart hdS hdX hdnS hdnX (by rw [hnX, Y.stackName]; decide)
  have xP := Cond.laysApart hdP hdX hdnP hdnX (by rw [hnX, Y.suppName]; decide)
  have hv0 : (freshCell P1.m.cls N.kN).slots[N.fState.slot]? = some (.int 0) := by
    have := fresh_default (c := P1.m.cls) tyX
    rw [htX] at this; exact this
  obtain ⟨tyB, dB, hdB, hdnB⟩ := Cond.laysAt hfound hk hffB (a' (.lays Bundle.nN Bundle.tN "backtrace" Bundle.objD) (by simp [Bundle.npeArmAtoms]))
  have bC := Cond.laysApart hdB hdC hdnB hdnC (by rw [hnB, Y.causeName]; decide)
  have bS := Cond.laysApart hdB hdS hdnB hdnS (by rw [hnB, Y.stackName]; decide)
  have bP := Cond.laysApart hdB hdP hdnB hdnP (by rw [hnB, Y.suppName]; decide)
  have bX := Cond.laysApart hdB hdX hdnB hdnX (by rw [hnB, hnX]; decide)
  have hbk : ((npeCell N.toNpeT (preparedCellV T.toThrowableT (freshCell P1.m.cls N.kN) W.heap.size u0 sen) W.cur).withEntry W.cur).slots[fB.slot]? = some .null := by
    have := fresh_default (c := P1.m.cls) tyB
    rw [htB] at this
    simpa [npeCell, preparedCellV, Cell.setSlot, Cell.withEntry, Array.getElem?_setIfInBounds, bC, bS, bP, bX, bC.symm, bS.symm, bP.symm, bX.symm, defaultValue] using this
  have tkC := Takes.of_laid (v := .ref W.heap.size) hk hordN tyC (by rw [Y.causeType]; rfl)
  have tkS := Takes.of_laid (v := u0.v) hk hordN tyS (by rw [Y.stackType]; exact fits_refV_array _ u0)
  have tkP := Takes.of_laid (v := sen.v) hk hordN tyP (by rw [Y.suppType]; exact fits_refV_object _ sen)
  have tkX := Takes.of_laid (v := .int 1) hk hordN tyX (by rw [htX]; rfl)
  have hskip : SkipFacts T e.platform s (fun u => u) u0 ((npeCell N.toNpeT (preparedCellV T.toThrowableT (freshCell P1.m.cls N.kN) W.heap.size u0 sen) W.cur).withEntry W.cur) := ⟨{ ci198 := ci198, i198 := i198, fBack := fB }, ⟨hk198, hg198, ha198, hsB⟩, hbk, fun _ _ => rfl⟩
  obtain ⟨vm', X3, st, -⟩ := X.throwsNpeColdBareVAt hexec hg hsize T L Z LZ N LN P1 L1 [PR, PE] hLs hlink1 ⟨hlinkR, hlinkE, trivial⟩ hfound hk hinit hordN hctor hsel0 hselF hcellS hknownS hvU hvSen
    hv0 xC xS xP tkC tkS tkP tkX Y.objLocals hskip (fun _ _ hA hW _ hroom _ hrest => L.nativeOff p htr hA hW hroom hrest) (by simpa using hRframes) hRlocals (by simp) hRcells (by rw [hn]; exact hRslots)
  have hlt : W.heap.size < ((W.pushCell (freshCell P1.m.cls N.kN)).setVm vm').heap.size := by
    show W.heap.size < (W.pushCell (freshCell P1.m.cls N.kN)).heap.size
    rw [State.heap_size_pushCell]; omega
  rw [hfsz] at X3
  obtain ⟨g₁, hfrM⟩ := X3.frames_eq
  have hU : ((((W.pushCell (freshCell P1.m.cls N.kN)).setVm vm').setCell W.heap.size (npeBareV T.toThrowableT N.toNpeT (freshCell P1.m.cls N.kN) W.heap.size u0 sen)).setTop g).pushFrame (.throwing W.heap.size) = (((W.pushCell (freshCell P1.m.cls N.kN)).setVm vm').setCell W.heap.size (npeBareV T.toThrowableT N.toNpeT (freshCell P1.m.cls N.kN) W.heap.size u0 sen)).setFrames (.throwing W.heap.size :: .java g :: below) := by
    rw [State.pushFrame, State.frames_setTop _ hfrM, State.setTop_of_frames _ hfrM, State.setFrames_setFrames]
  refine ⟨_, W.heap.size, _, fun target ht => st.trans (by rw [← hU]; exact ht), X3.forget (fun y hy => ?_), heapAt_setCell_self _ hlt, hfound, rfl⟩
  simp only [List.mem_cons, List.not_mem_nil, or_false] at hy
  have hge : s.heap.size ≤ W.heap.size := X.same.2.1
  rcases hy with rfl | rfl | rfl | rfl | rfl <;> exact hge
/-- the words of a machine's NullPointerException, but the four that speak of the heap -/
def vx_atN (n : Nat) : List Cond := (Bundle.npeArmAtoms n).filter vx_no
/-- the words of a machine's throw with a message, but the four that speak of the heap -/
def vx_atM (X : String) (names : List String) : List Cond := (Bundle.messageArmAtoms X names).filter vx_no
section
variable {p : Program} {l : Launch} {e : Env} {R : Room} {s : State} {m : MethodId} {args : Array Value} {below : List Frame} {meth : Method} {c : Code} {H : Heap} {locs : List Loc} {cells slots : Nat}
/-- a frame seen from a rebased start, seen from the first start again -/
theorem vx_back9 {T S : State} {R' : Room} {k n : Nat} (X : Stand p l e R s m args below meth c T locs cells slots) (Y : Stand p l e R' ((T.setVm s.vm).setFrames (.invoking m args :: below)) m args below meth c T [] 0 0) (Z : Stand p l e R' ((T.setVm s.vm).setFrames (.invoking m args :: below)) m args below meth c S [] k n) :
    Stand p l e R s m args below meth c S locs (cells + k) (slots + n) := by
  have hW0 : s.WarmedH ((T.setVm s.vm).setFrames (.invoking m args :: below)).vm := State.WarmedH.refl s
  refine { admits := X.admits, cas := X.cas, clock := X.clock, frames := X.frames, room := X.room, hears := X.hears, method := X.method, code := X.code, here := Z.here, tail := Z.tail, warmed := State.WarmedH.trans hW0 Z.warmed, limits := Z.limits.trans (Y.limits.symm.trans X.limits), bytes := Z.bytes.trans (Y.bytes.symm.trans X.bytes), same := ?_ }
  obtain ⟨e1, e2⟩ := Z.same
  rw [State.setFrames_setFrames] at e1
  have h2 : (T.setVm s.vm).sameButNew (S.setVm s.vm) [] k n := ⟨e1, e2⟩
  have h3 := X.same.trans h2
  rw [List.append_nil] at h3
  exact h3
/-- from the machine's note that E is thrown here with this text -/
def vx_Note (p : Program) (l : Launch) (e : Env) (R : Room) (s : State) (m : MethodId) (args : Array Value) (below : List Frame) (meth : Method) (c : Code) (H : Heap) (locs : List Loc) (cells slots : Nat) (Q : State → Prop) (g : JFrame) (E text : String) : Prop :=
  ∀ T : State, T.heap = H → Stand p l e R s m args below meth c T locs cells slots → ∃ t, Steps p.tables e below ((T.setTop g).pushFrame (.throwNew E (some text) none)) t ∧ Q t
theorem vx_vm {pc : Nat} {ls : Array Slot} {rest : List Value} {Q : State → Prop} (hexec : p.tables.exec = Jvm.exec) (hl : l.stackTraces = false) {cls text : String} {names : List String} {nb : Nat} {A : Nat → Prop}
    (hcls : Bundle.fit cls = true) (hnames : ∀ n ∈ names, Bundle.fit n = true) (hsoe : (cls == "java/lang/StackOverflowError") = false) (hoom : (cls == "java/lang/OutOfMemoryError") = false)
    (hat : ∀ w ∈ vx_atM cls names, w.before args s = true) (hgood : ∀ w ∈ vx_atM cls names, vx_ot w = true)
    (hU : vx_Zq Bundle.tN "UNASSIGNED_STACK" Bundle.steD A s s.heap) (hN : vx_Zq Bundle.tN "SUPPRESSED_SENTINEL" Bundle.listD A s s.heap) (hS : va_S A s.heap H locs) (hsize : ls.size = c.maxLocals)
    (htext : (text == notModelled) = false) (hnb : (stringBytes (stringToUtf16 text)).size ≤ nb) (hnb1 : nb ≤ 1000)
    (hRframes : names.length + 4 < R.frames) (hRlocals : (rest.map fun v => v.category).sum + 10240 ≤ R.locals) (hshort : 13 * names.length + 55 ≤ 10240) (hRcells : cells + 3 ≤ R.cells) (hRslots : slots + (nb + 10) ≤ R.slots) (hlocks : meth.locks = false)
    (k : ∀ (H1 : Heap) (q9 : Addr) (ce : Cell), H.size ≤ H1.size → (∀ q : Nat, q < H.size → H1[q]? = H[q]?) → va_S A s.heap H1 locs → H1[q9]? = some ce → ce.vm = .none → s.vm.findClass cls = some ce.cls → vx_W p l e R s m args below meth c H1 locs (cells + 3) (slots + (nb + 10)) Q (F0 m pc ls rest) q9) :
    vx_Note p l e R s m args below meth c H locs cells slots Q (F0 m pc ls rest) cls text := by
  intro T hT X
  have htr : e.platform.stackTraces = false := (show e.platform.stackTraces = l.stackTraces by rw [X.admits.platform]).trans hl
  have Y := vx_rebase X (R' := { frames := R.frames, locals := R.locals, cells := 3, slots := nb + 10 }) (Nat.le_refl _) (Nat.le_refl _) hRcells hRslots
  have hhp : ((T.setVm s.vm).setFrames (.invoking m args :: below)).heap = H := hT
  have hW0 : s.WarmedH ((T.setVm s.vm).setFrames (.invoking m args :: below)).vm := State.WarmedH.refl s
  have hat' : ∀ w ∈ vx_atM cls names, w.before args ((T.setVm s.vm).setFrames (.invoking m args :: below)) = true := fun w hw => vx_ot_at hW0 rfl (hgood w hw) (hat w hw)
  have hU' : vx_Zq Bundle.tN "UNASSIGNED_STACK" Bundle.steD A ((T.setVm s.vm).setFrames (.invoking m args :: below)) ((T.setVm s.vm).setFrames (.invoking m args :: below)).heap := by rw [hhp]; exact vx_Zq.moved hW0.alike (hU.kept hS.2.1)
  have hN' : vx_Zq Bundle.tN "SUPPRESSED_SENTINEL" Bundle.listD A ((T.setVm s.vm).setFrames (.invoking m args :: below)) ((T.setVm s.vm).setFrames (.invoking m args :: below)).heap := by rw [hhp]; exact vx_Zq.moved hW0.alike (hN.kept hS.2.1)
  obtain ⟨S, q, ce, st, Z, hce, hcl', hv⟩ := vx_vmAt Y hexec htr (cls := cls) (names := names) (text := text) hcls hnames hsoe hoom (vx_own hat' (vx_isRefq hU'.1) (vx_isRefq hN'.1) hU'.2.word hN'.2.word) (fun x hx => nomatch hx) htext
    (by rw [Launch.admits_arrayLengthLimit X.admits]; omega) (by rw [Launch.admits_maxHeapBytes X.admits]; simp only [componentBytes]; omega)
    (g := F0 m pc ls rest) rfl hsize hRframes (by show 2 * 0 + (rest.map fun v => v.category).sum + 10240 ≤ R.locals; omega) hshort (by show 0 + 3 ≤ 3; omega) (by show 0 + (_ + 4 + 6) ≤ nb + 10; omega) hlocks
  obtain ⟨f1, f2⟩ := vx_frame Z.same
  have f1' : H.size ≤ S.heap.size := by rw [← hT]; exact f1
  have f2' : ∀ q : Nat, q < H.size → S.heap[q]? = H[q]? := fun q hq => by
    rw [← hT]
    exact f2 q (by rw [← hT] at hq; exact hq) (fun z hz => nomatch hz)
  have X5 := vx_back9 X Y Z
  have X6 : Stand p l e R s m args below meth c S locs (cells + 3) (slots + (nb + 10)) := { X5 with same := X5.same.mono (by omega) (by omega) }
  obtain ⟨t, a1, b1⟩ := k S.heap q ce f1' f2' ⟨Nat.le_trans hS.1 f1', fun q h1 h2 => (f2' q (Nat.lt_of_lt_of_le h1 hS.1)).trans (hS.2.1 q h1 h2), hS.2.2⟩ hce hv hcl' S rfl X6
  exact ⟨t, st t a1, b1⟩
/-- from the machine's note that NullPointerException is thrown here -/
def vx_NoteN (p : Program) (l : Launch) (e : Env) (R : Room) (s : State) (m : MethodId) (args : Array Value) (below : List Frame) (meth : Method) (c : Code) (H : Heap) (locs : List Loc) (cells slots : Nat) (Q : State → Prop) (g : JFrame) : Prop :=
  ∀ T : State, T.heap = H → Stand p l e R s m args below meth c T locs cells slots → ∃ t, Steps p.tables e below ((T.setTop g).pushFrame (.throwNew "java/lang/NullPointerException" none none)) t ∧ Q t
theorem vx_npe {pc : Nat} {ls : Array Slot} {rest : List Value} {Q : State → Prop} (hexec : p.tables.exec = Jvm.exec) (hl : l.stackTraces = false) {nb : Nat} {A : Nat → Prop}
    (hat : ∀ w ∈ vx_atN nb, w.before args s = true) (hgood : ∀ w ∈ vx_atN nb, vx_ot w = true)
    (hU : vx_Zq Bundle.tN "UNASSIGNED_STACK" Bundle.steD A s s.heap) (hN : vx_Zq Bundle.tN "SUPPRESSED_SENTINEL" Bundle.listD A s s.heap) (hS : va_S A s.heap H locs) (hsize : ls.size = c.maxLocals)
    (hRframes : 7 < R.frames) (hRlocals : (rest.map fun v => v.category).sum + 10240 ≤ R.locals) (hRcells : cells + 1 ≤ R.cells) (hRslots : slots + nb ≤ R.slots) (hlocks : meth.locks = false)
    (k : ∀ (H1 : Heap) (q9 : Addr) (ce : Cell), H.size ≤ H1.size → (∀ q : Nat, q < H.size → H1[q]? = H[q]?) → va_S A s.heap H1 locs → H1[q9]? = some ce → ce.vm = .none → s.vm.findClass "java/lang/NullPointerException" = some ce.cls → vx_W p l e R s m args below meth c H1 locs (cells + 1) (slots + nb) Q (F0 m pc ls rest) q9) :
    vx_NoteN p l e R s m args below meth c H locs cells slots Q (F0 m pc ls rest) := by
  intro T hT X
  have htr : e.platform.stackTraces = false := (show e.platform.stackTraces = l.stackTraces by rw [X.admits.platform]).trans hl
  have Y := vx_rebase X (R' := { frames := R.frames, locals := R.locals, cells := 1, slots := nb }) (Nat.le_refl _) (Nat.le_refl _) hRcells hRslots
  have hhp : ((T.setVm s.vm).setFrames (.invoking m args :: below)).heap = H := hT
  have hW0 : s.WarmedH ((T.setVm s.vm).setFrames (.invoking m args :: below)).vm := State.WarmedH.refl s
  have hat' : ∀ w ∈ vx_atN nb, w.before args ((T.setVm s.vm).setFrames (.invoking m args :: below)) = true := fun w hw => vx_ot_at hW0 rfl (hgood w hw) (hat w hw)
  have hU' : vx_Zq Bundle.tN "UNASSIGNED_STACK" Bundle.steD A ((T.setVm s.vm).setFrames (.invoking m args :: below)) ((T.setVm s.vm).setFrames (.invoking m args :: below)).heap := by rw [hhp]; exact vx_Zq.moved hW0.alike (hU.kept hS.2.1)
  have hN' : vx_Zq Bundle.tN "SUPPRESSED_SENTINEL" Bundle.listD A ((T.setVm s.vm).setFrames (.invoking m args :: below)) ((T.setVm s.vm).setFrames (.invoking m args :: below)).heap := by rw [hhp]; exact vx_Zq.moved hW0.alike (hN.kept hS.2.1)
  obtain ⟨S, q, ce, st, Z, hce, hcl', hv⟩ := vx_npeAt Y hexec htr (n := nb) (vx_own hat' (vx_isRefq hU'.1) (vx_isRefq hN'.1) hU'.2.word hN'.2.word) (fun x hx => nomatch hx)
    (g := F0 m pc ls rest) rfl hsize hRframes (by show 2 * 0 + (rest.map fun v => v.category).sum + 10240 ≤ R.locals; omega) (by show 0 + 1 ≤ 1; omega) (by show 0 + nb ≤ nb; omega) hlocks
  obtain ⟨f1, f2⟩ := vx_frame Z.same
  have f1' : H.size ≤ S.heap.size := by rw [← hT]; exact f1
  have f2' : ∀ q : Nat, q < H.size → S.heap[q]? = H[q]? := fun q hq => by
    rw [← hT]
    exact f2 q (by rw [← hT] at hq; exact hq) (fun z hz => nomatch hz)
  have X5 := vx_back9 X Y Z
  have X6 : Stand p l e R s m args below meth c S locs (cells + 1) (slots + nb) := { X5 with same := X5.same.mono (by omega) (by omega) }
  obtain ⟨t, a1, b1⟩ := k S.heap q ce f1' f2' ⟨Nat.le_trans hS.1 f1', fun q h1 h2 => (f2' q (Nat.lt_of_lt_of_le h1 hS.1)).trans (hS.2.1 q h1 h2), hS.2.2⟩ hce hv hcl' S rfl X6
  exact ⟨t, st t a1, b1⟩
variable {Q : State → Prop} {cc : ByteArray} {pc : Nat} {ls : Array Slot} {rest : List Value}
theorem vx_idivZ (hexec : p.tables.exec = Jvm.exec) (hb : c.code = cc) {a b : Int32} (h0 : b = 0) (d : decode cc pc = .ok (.idiv, 1)) (k : vx_Note p l e R s m args below meth c H locs cells slots Q (F0 m pc ls rest) "java/lang/ArithmeticException" "/ by zero") :
    W p l e R s m args below meth c H locs cells slots Q (F0 m pc ls (.int b :: .int a :: rest)) := by
  intro T hT X
  obtain ⟨t, st, q⟩ := k T hT X
  exact ⟨t, X.idivZero hexec (g := F0 m pc ls (.int b :: .int a :: rest)) rfl (a := a) (rest := rest) (by rw [h0]) (by rw [hb]; exact d) t st, q⟩
theorem vx_iremZ (hexec : p.tables.exec = Jvm.exec) (hb : c.code = cc) {a b : Int32} (h0 : b = 0) (d : decode cc pc = .ok (.irem, 1)) (k : vx_Note p l e R s m args below meth c H locs cells slots Q (F0 m pc ls rest) "java/lang/ArithmeticException" "/ by zero") :
    W p l e R s m args below meth c H locs cells slots Q (F0 m pc ls (.int b :: .int a :: rest)) := by
  intro T hT X
  obtain ⟨t, st, q⟩ := k T hT X
  exact ⟨t, X.iremZero hexec (g := F0 m pc ls (.int b :: .int a :: rest)) rfl (a := a) (rest := rest) (by rw [h0]) (by rw [hb]; exact d) t st, q⟩
theorem vx_ldivZ (hexec : p.tables.exec = Jvm.exec) (hb : c.code = cc) {a b : Int64} (h0 : b = 0) (d : decode cc pc = .ok (.ldiv, 1)) (k : vx_Note p l e R s m args below meth c H locs cells slots Q (F0 m pc ls rest) "java/lang/ArithmeticException" "/ by zero") :
    W p l e R s m args below meth c H locs cells slots Q (F0 m pc ls (.long b :: .long a :: rest)) := by
  intro T hT X
  obtain ⟨t, st, q⟩ := k T hT X
  exact ⟨t, X.ldivZero hexec (g := F0 m pc ls (.long b :: .long a :: rest)) rfl (a := a) (rest := rest) (by rw [h0]) (by rw [hb]; exact d) t st, q⟩
theorem vx_lremZ (hexec : p.tables.exec = Jvm.exec) (hb : c.code = cc) {a b : Int64} (h0 : b = 0) (d : decode cc pc = .ok (.lrem, 1)) (k : vx_Note p l e R s m args below meth c H locs cells slots Q (F0 m pc ls rest) "java/lang/ArithmeticException" "/ by zero") :
    W p l e R s m args below meth c H locs cells slots Q (F0 m pc ls (.long b :: .long a :: rest)) := by
  intro T hT X
  obtain ⟨t, st, q⟩ := k T hT X
  exact ⟨t, X.lremZero hexec (g := F0 m pc ls (.long b :: .long a :: rest)) rfl (a := a) (rest := rest) (by rw [h0]) (by rw [hb]; exact d) t st, q⟩
theorem vx_ialdZ {D : va_G} {cl : List vw_C} {ws : va_W} {tys : List (ClassId × FieldType)} {a : Nat} (hexec : p.tables.exec = Jvm.exec) (hb : c.code = cc) (hK : va_K D cl tys s) (hP : va_P D cl ws H) (q0 t0 : Nat) {cA : ClassId} {n : Nat} {f : Nat → Int32} (ha : ws[q0]? = some (a, .inl (cA, n, .inl f))) (ht : tys[t0]? = some (cA, .int)) {i : Int32} (hout : ¬ vp_in i n) (hdg : decode cc pc = .ok (.iaload, 1))
    (k : ∀ tx : String, tx = (toString "Index " ++ toString i ++ toString " out of bounds for length " ++ toString n : String) → vx_Note p l e R s m args below meth c H locs cells slots Q (F0 m pc ls rest) "java/lang/ArrayIndexOutOfBoundsException" tx) : W p l e R s m args below meth c H locs cells slots Q (F0 m pc ls (.int i :: .ref a :: rest)) := by
  intro T hT X
  obtain ⟨t, st, q⟩ := k _ rfl T hT X
  refine ⟨t, ?_, q⟩
  have h1 := X.ialoadOut hexec (by rw [hT]; exact hP q0 _ ha) ((hK.2 t0 _ ht).1 n (fun j => .int (f j))) (j := i) (by show (i < 0 ∨ (arrV _ _ _).slots.size ≤ _); rw [arrV_size]; exact Classical.byContradiction hout) (g := F0 m pc ls (.int i :: .ref a :: rest)) rfl (rest := rest) rfl (by rw [hb]; exact hdg) t
  simp only [arrV_size] at h1
  exact h1 st
theorem vx_iastZ {D : va_G} {cl : List vw_C} {ws : va_W} {tys : List (ClassId × FieldType)} {a : Nat} (hexec : p.tables.exec = Jvm.exec) (hb : c.code = cc) (hK : va_K D cl tys s) (hP : va_P D cl ws H) (q0 t0 : Nat) {cA : ClassId} {n : Nat} {f : Nat → Int32} (ha : ws[q0]? = some (a, .inl (cA, n, .inl f))) (ht : tys[t0]? = some (cA, .int)) {i : Int32} {x : Int32} (hout : ¬ vp_in i n) (hdg : decode cc pc = .ok (.iastore, 1))
    (k : ∀ tx : String, tx = (toString "Index " ++ toString i ++ toString " out of bounds for length " ++ toString n : String) → vx_Note p l e R s m args below meth c H locs cells slots Q (F0 m pc ls rest) "java/lang/ArrayIndexOutOfBoundsException" tx) : W p l e R s m args below meth c H locs cells slots Q (F0 m pc ls (.int x :: .int i :: .ref a :: rest)) := by
  intro T hT X
  obtain ⟨t, st, q⟩ := k _ rfl T hT X
  refine ⟨t, ?_, q⟩
  have h1 := X.iastoreOut hexec (by rw [hT]; exact hP q0 _ ha) ((hK.2 t0 _ ht).1 n (fun j => .int (f j))) (j := i) (by show (i < 0 ∨ (arrV _ _ _).slots.size ≤ _); rw [arrV_size]; exact Classical.byContradiction hout) (g := F0 m pc ls (.int x :: .int i :: .ref a :: rest)) rfl (rest := rest) rfl (by rw [hb]; exact hdg) t
  simp only [arrV_size] at h1
  exact h1 st
theorem vx_baldZ {D : va_G} {cl : List vw_C} {ws : va_W} {tys : List (ClassId × FieldType)} {a : Nat} (hexec : p.tables.exec = Jvm.exec) (hb : c.code = cc) (hK : va_K D cl tys s) (hP : va_P D cl ws H) (q0 t0 : Nat) {cA : ClassId} {n : Nat} {f : Nat → Int32} (ha : ws[q0]? = some (a, .inl (cA, n, .inl f))) (ht : tys[t0]? = some (cA, .byte)) {i : Int32} (hout : ¬ vp_in i n) (hdg : decode cc pc = .ok (.baload, 1))
    (k : ∀ tx : String, tx = (toString "Index " ++ toString i ++ toString " out of bounds for length " ++ toString n : String) → vx_Note p l e R s m args below meth c H locs cells slots Q (F0 m pc ls rest) "java/lang/ArrayIndexOutOfBoundsException" tx) : W p l e R s m args below meth c H locs cells slots Q (F0 m pc ls (.int i :: .ref a :: rest)) := by
  intro T hT X
  obtain ⟨t, st, q⟩ := k _ rfl T hT X
  refine ⟨t, ?_, q⟩
  have h1 := X.baloadOut hexec (by rw [hT]; exact hP q0 _ ha) ((hK.2 t0 _ ht).1 n (fun j => .int (f j))) (j := i) (by show (i < 0 ∨ (arrV _ _ _).slots.size ≤ _); rw [arrV_size]; exact Classical.byContradiction hout) (g := F0 m pc ls (.int i :: .ref a :: rest)) rfl (rest := rest) rfl (by rw [hb]; exact hdg) t
  simp only [arrV_size] at h1
  exact h1 st
theorem vx_bastZ {D : va_G} {cl : List vw_C} {ws : va_W} {tys : List (ClassId × FieldType)} {a : Nat} (hexec : p.tables.exec = Jvm.exec) (hb : c.code = cc) (hK : va_K D cl tys s) (hP : va_P D cl ws H) (q0 t0 : Nat) {cA : ClassId} {n : Nat} {f : Nat → Int32} (ha : ws[q0]? = some (a, .inl (cA, n, .inl f))) (ht : tys[t0]? = some (cA, .byte)) {i : Int32} {x : Int32} (hout : ¬ vp_in i n) (hdg : decode cc pc = .ok (.bastore, 1))
    (k : ∀ tx : String, tx = (toString "Index " ++ toString i ++ toString " out of bounds for length " ++ toString n : String) → vx_Note p l e R s m args below meth c H locs cells slots Q (F0 m pc ls rest) "java/lang/ArrayIndexOutOfBoundsException" tx) : W p l e R s m args below meth c H locs cells slots Q (F0 m pc ls (.int x :: .int i :: .ref a :: rest)) := by
  intro T hT X
  obtain ⟨t, st, q⟩ := k _ rfl T hT X
  refine ⟨t, ?_, q⟩
  have h1 := X.bastoreOut hexec (by rw [hT]; exact hP q0 _ ha) ((hK.2 t0 _ ht).1 n (fun j => .int (f j))) (j := i) (by show (i < 0 ∨ (arrV _ _ _).slots.size ≤ _); rw [arrV_size]; exact Classical.byContradiction hout) (g := F0 m pc ls (.int x :: .int i :: .ref a :: rest)) rfl (rest := rest) rfl (by rw [hb]; exact hdg) t
  simp only [arrV_size] at h1
  exact h1 st
theorem vx_zaldZ {D : va_G} {cl : List vw_C} {ws : va_W} {tys : List (ClassId × FieldType)} {a : Nat} (hexec : p.tables.exec = Jvm.exec) (hb : c.code = cc) (hK : va_K D cl tys s) (hP : va_P D cl ws H) (q0 t0 : Nat) {cA : ClassId} {n : Nat} {f : Nat → Int32} (ha : ws[q0]? = some (a, .inl (cA, n, .inl f))) (ht : tys[t0]? = some (cA, .boolean)) {i : Int32} (hout : ¬ vp_in i n) (hdg : decode cc pc = .ok (.baload, 1))
    (k : ∀ tx : String, tx = (toString "Index " ++ toString i ++ toString " out of bounds for length " ++ toString n : String) → vx_Note p l e R s m args below meth c H locs cells slots Q (F0 m pc ls rest) "java/lang/ArrayIndexOutOfBoundsException" tx) : W p l e R s m args below meth c H locs cells slots Q (F0 m pc ls (.int i :: .ref a :: rest)) := by
  intro T hT X
  obtain ⟨t, st, q⟩ := k _ rfl T hT X
  refine ⟨t, ?_, q⟩
  have h1 := X.baloadOut hexec (by rw [hT]; exact hP q0 _ ha) ((hK.2 t0 _ ht).1 n (fun j => .int (f j))) (j := i) (by show (i < 0 ∨ (arrV _ _ _).slots.size ≤ _); rw [arrV_size]; exact Classical.byContradiction hout) (g := F0 m pc ls (.int i :: .ref a :: rest)) rfl (rest := rest) rfl (by rw [hb]; exact hdg) t
  simp only [arrV_size] at h1
  exact h1 st
theorem vx_zastZ {D : va_G} {cl : List vw_C} {ws : va_W} {tys : List (ClassId × FieldType)} {a : Nat} (hexec : p.tables.exec = Jvm.exec) (hb : c.code = cc) (hK : va_K D cl tys s) (hP : va_P D cl ws H) (q0 t0 : Nat) {cA : ClassId} {n : Nat} {f : Nat → Int32} (ha : ws[q0]? = some (a, .inl (cA, n, .inl f))) (ht : tys[t0]? = some (cA, .boolean)) {i : Int32} {x : Int32} (hout : ¬ vp_in i n) (hdg : decode cc pc = .ok (.bastore, 1))
    (k : ∀ tx : String, tx = (toString "Index " ++ toString i ++ toString " out of bounds for length " ++ toString n : String) → vx_Note p l e R s m args below meth c H locs cells slots Q (F0 m pc ls rest) "java/lang/ArrayIndexOutOfBoundsException" tx) : W p l e R s m args below meth c H locs cells slots Q (F0 m pc ls (.int x :: .int i :: .ref a :: rest)) := by
  intro T hT X
  obtain ⟨t, st, q⟩ := k _ rfl T hT X
  refine ⟨t, ?_, q⟩
  have h1 := X.bastoreOut hexec (by rw [hT]; exact hP q0 _ ha) ((hK.2 t0 _ ht).1 n (fun j => .int (f j))) (j := i) (by show (i < 0 ∨ (arrV _ _ _).slots.size ≤ _); rw [arrV_size]; exact Classical.byContradiction hout) (g := F0 m pc ls (.int x :: .int i :: .ref a :: rest)) rfl (rest := rest) rfl (by rw [hb]; exact hdg) t
  simp only [arrV_size] at h1
  exact h1 st
theorem vx_caldZ {D : va_G} {cl : List vw_C} {ws : va_W} {tys : List (ClassId × FieldType)} {a : Nat} (hexec : p.tables.exec = Jvm.exec) (hb : c.code = cc) (hK : va_K D cl tys s) (hP : va_P D cl ws H) (q0 t0 : Nat) {cA : ClassId} {n : Nat} {f : Nat → Int32} (ha : ws[q0]? = some (a, .inl (cA, n, .inl f))) (ht : tys[t0]? = some (cA, .char)) {i : Int32} (hout : ¬ vp_in i n) (hdg : decode cc pc = .ok (.caload, 1))
    (k : ∀ tx : String, tx = (toString "Index " ++ toString i ++ toString " out of bounds for length " ++ toString n : String) → vx_Note p l e R s m args below meth c H locs cells slots Q (F0 m pc ls rest) "java/lang/ArrayIndexOutOfBoundsException" tx) : W p l e R s m args below meth c H locs cells slots Q (F0 m pc ls (.int i :: .ref a :: rest)) := by
  intro T hT X
  obtain ⟨t, st, q⟩ := k _ rfl T hT X
  refine ⟨t, ?_, q⟩
  have h1 := X.caloadOut hexec (by rw [hT]; exact hP q0 _ ha) ((hK.2 t0 _ ht).1 n (fun j => .int (f j))) (j := i) (by show (i < 0 ∨ (arrV _ _ _).slots.size ≤ _); rw [arrV_size]; exact Classical.byContradiction hout) (g := F0 m pc ls (.int i :: .ref a :: rest)) rfl (rest := rest) rfl (by rw [hb]; exact hdg) t
  simp only [arrV_size] at h1
  exact h1 st
theorem vx_castZ {D : va_G} {cl : List vw_C} {ws : va_W} {tys : List (ClassId × FieldType)} {a : Nat} (hexec : p.tables.exec = Jvm.exec) (hb : c.code = cc) (hK : va_K D cl tys s) (hP : va_P D cl ws H) (q0 t0 : Nat) {cA : ClassId} {n : Nat} {f : Nat → Int32} (ha : ws[q0]? = some (a, .inl (cA, n, .inl f))) (ht : tys[t0]? = some (cA, .char)) {i : Int32} {x : Int32} (hout : ¬ vp_in i n) (hdg : decode cc pc = .ok (.castore, 1))
    (k : ∀ tx : String, tx = (toString "Index " ++ toString i ++ toString " out of bounds for length " ++ toString n : String) → vx_Note p l e R s m args below meth c H locs cells slots Q (F0 m pc ls rest) "java/lang/ArrayIndexOutOfBoundsException" tx) : W p l e R s m args below meth c H locs cells slots Q (F0 m pc ls (.int x :: .int i :: .ref a :: rest)) := by
  intro T hT X
  obtain ⟨t, st, q⟩ := k _ rfl T hT X
  refine ⟨t, ?_, q⟩
  have h1 := X.castoreOut hexec (by rw [hT]; exact hP q0 _ ha) ((hK.2 t0 _ ht).1 n (fun j => .int (f j))) (j := i) (by show (i < 0 ∨ (arrV _ _ _).slots.size ≤ _); rw [arrV_size]; exact Classical.byContradiction hout) (g := F0 m pc ls (.int x :: .int i :: .ref a :: rest)) rfl (rest := rest) rfl (by rw [hb]; exact hdg) t
  simp only [arrV_size] at h1
  exact h1 st
theorem vx_saldZ {D : va_G} {cl : List vw_C} {ws : va_W} {tys : List (ClassId × FieldType)} {a : Nat} (hexec : p.tables.exec = Jvm.exec) (hb : c.code = cc) (hK : va_K D cl tys s) (hP : va_P D cl ws H) (q0 t0 : Nat) {cA : ClassId} {n : Nat} {f : Nat → Int32} (ha : ws[q0]? = some (a, .inl (cA, n, .inl f))) (ht : tys[t0]? = some (cA, .short)) {i : Int32} (hout : ¬ vp_in i n) (hdg : decode cc pc = .ok (.saload, 1))
    (k : ∀ tx : String, tx = (toString "Index " ++ toString i ++ toString " out of bounds for length " ++ toString n : String) → vx_Note p l e R s m args below meth c H locs cells slots Q (F0 m pc ls rest) "java/lang/ArrayIndexOutOfBoundsException" tx) : W p l e R s m args below meth c H locs cells slots Q (F0 m pc ls (.int i :: .ref a :: rest)) := by
  intro T hT X
  obtain ⟨t, st, q⟩ := k _ rfl T hT X
  refine ⟨t, ?_, q⟩
  have h1 := X.saloadOut hexec (by rw [hT]; exact hP q0 _ ha) ((hK.2 t0 _ ht).1 n (fun j => .int (f j))) (j := i) (by show (i < 0 ∨ (arrV _ _ _).slots.size ≤ _); rw [arrV_size]; exact Classical.byContradiction hout) (g := F0 m pc ls (.int i :: .ref a :: rest)) rfl (rest := rest) rfl (by rw [hb]; exact hdg) t
  simp only [arrV_size] at h1
  exact h1 st
theorem vx_sastZ {D : va_G} {cl : List vw_C} {ws : va_W} {tys : List (ClassId × FieldType)} {a : Nat} (hexec : p.tables.exec = Jvm.exec) (hb : c.code = cc) (hK : va_K D cl tys s) (hP : va_P D cl ws H) (q0 t0 : Nat) {cA : ClassId} {n : Nat} {f : Nat → Int32} (ha : ws[q0]? = some (a, .inl (cA, n, .inl f))) (ht : tys[t0]? = some (cA, .short)) {i : Int32} {x : Int32} (hout : ¬ vp_in i n) (hdg : decode cc pc = .ok (.sastore, 1))
    (k : ∀ tx : String, tx = (toString "Index " ++ toString i ++ toString " out of bounds for length " ++ toString n : String) → vx_Note p l e R s m args below meth c H locs cells slots Q (F0 m pc ls rest) "java/lang/ArrayIndexOutOfBoundsException" tx) : W p l e R s m args below meth c H locs cells slots Q (F0 m pc ls (.int x :: .int i :: .ref a :: rest)) := by
  intro T hT X
  obtain ⟨t, st, q⟩ := k _ rfl T hT X
  refine ⟨t, ?_, q⟩
  have h1 := X.sastoreOut hexec (by rw [hT]; exact hP q0 _ ha) ((hK.2 t0 _ ht).1 n (fun j => .int (f j))) (j := i) (by show (i < 0 ∨ (arrV _ _ _).slots.size ≤ _); rw [arrV_size]; exact Classical.byContradiction hout) (g := F0 m pc ls (.int x :: .int i :: .ref a :: rest)) rfl (rest := rest) rfl (by rw [hb]; exact hdg) t
  simp only [arrV_size] at h1
  exact h1 st
theorem vx_laldZ {D : va_G} {cl : List vw_C} {ws : va_W} {tys : List (ClassId × FieldType)} {a : Nat} (hexec : p.tables.exec = Jvm.exec) (hb : c.code = cc) (hK : va_K D cl tys s) (hP : va_P D cl ws H) (q0 t0 : Nat) {cA : ClassId} {n : Nat} {f : Nat → Int64} (ha : ws[q0]? = some (a, .inl (cA, n, .inr (.inl f)))) (ht : tys[t0]? = some (cA, .long)) {i : Int32} (hout : ¬ vp_in i n) (hdg : decode cc pc = .ok (.laload, 1))
    (k : ∀ tx : String, tx = (toString "Index " ++ toString i ++ toString " out of bounds for length " ++ toString n : String) → vx_Note p l e R s m args below meth c H locs cells slots Q (F0 m pc ls rest) "java/lang/ArrayIndexOutOfBoundsException" tx) : W p l e R s m args below meth c H locs cells slots Q (F0 m pc ls (.int i :: .ref a :: rest)) := by
  intro T hT X
  obtain ⟨t, st, q⟩ := k _ rfl T hT X
  refine ⟨t, ?_, q⟩
  have h1 := X.laloadOut hexec (by rw [hT]; exact hP q0 _ ha) ((hK.2 t0 _ ht).1 n (fun j => .long (f j))) (j := i) (by show (i < 0 ∨ (arrV _ _ _).slots.size ≤ _); rw [arrV_size]; exact Classical.byContradiction hout) (g := F0 m pc ls (.int i :: .ref a :: rest)) rfl (rest := rest) rfl (by rw [hb]; exact hdg) t
  simp only [arrV_size] at h1
  exact h1 st
theorem vx_lastZ {D : va_G} {cl : List vw_C} {ws : va_W} {tys : List (ClassId × FieldType)} {a : Nat} (hexec : p.tables.exec = Jvm.exec) (hb : c.code = cc) (hK : va_K D cl tys s) (hP : va_P D cl ws H) (q0 t0 : Nat) {cA : ClassId} {n : Nat} {f : Nat → Int64} (ha : ws[q0]? = some (a, .inl (cA, n, .inr (.inl f)))) (ht : tys[t0]? = some (cA, .long)) {i : Int32} {x : Int64} (hout : ¬ vp_in i n) (hdg : decode cc pc = .ok (.lastore, 1))
    (k : ∀ tx : String, tx = (toString "Index " ++ toString i ++ toString " out of bounds for length " ++ toString n : String) → vx_Note p l e R s m args below meth c H locs cells slots Q (F0 m pc ls rest) "java/lang/ArrayIndexOutOfBoundsException" tx) : W p l e R s m args below meth c H locs cells slots Q (F0 m pc ls (.long x :: .int i :: .ref a :: rest)) := by
  intro T hT X
  obtain ⟨t, st, q⟩ := k _ rfl T hT X
  refine ⟨t, ?_, q⟩
  have h1 := X.lastoreOut hexec (by rw [hT]; exact hP q0 _ ha) ((hK.2 t0 _ ht).1 n (fun j => .long (f j))) (j := i) (by show (i < 0 ∨ (arrV _ _ _).slots.size ≤ _); rw [arrV_size]; exact Classical.byContradiction hout) (g := F0 m pc ls (.long x :: .int i :: .ref a :: rest)) rfl (rest := rest) rfl (by rw [hb]; exact hdg) t
  simp only [arrV_size] at h1
  exact h1 st
theorem vx_faldZ {D : va_G} {cl : List vw_C} {ws : va_W} {tys : List (ClassId × FieldType)} {a : Nat} (hexec : p.tables.exec = Jvm.exec) (hb : c.code = cc) (hK : va_K D cl tys s) (hP : va_P D cl ws H) (q0 t0 : Nat) {cA : ClassId} {n : Nat} {f : Nat → UInt32} (ha : ws[q0]? = some (a, .inl (cA, n, .inr (.inr (.inl f))))) (ht : tys[t0]? = some (cA, .float)) {i : Int32} (hout : ¬ vp_in i n) (hdg : decode cc pc = .ok (.faload, 1))
    (k : ∀ tx : String, tx = (toString "Index " ++ toString i ++ toString " out of bounds for length " ++ toString n : String) → vx_Note p l e R s m args below meth c H locs cells slots Q (F0 m pc ls rest) "java/lang/ArrayIndexOutOfBoundsException" tx) : W p l e R s m args below meth c H locs cells slots Q (F0 m pc ls (.int i :: .ref a :: rest)) := by
  intro T hT X
  obtain ⟨t, st, q⟩ := k _ rfl T hT X
  refine ⟨t, ?_, q⟩
  have h1 := X.faloadOut hexec (by rw [hT]; exact hP q0 _ ha) ((hK.2 t0 _ ht).1 n (fun j => .float (f j))) (j := i) (by show (i < 0 ∨ (arrV _ _ _).slots.size ≤ _); rw [arrV_size]; exact Classical.byContradiction hout) (g := F0 m pc ls (.int i :: .ref a :: rest)) rfl (rest := rest) rfl (by rw [hb]; exact hdg) t
  simp only [arrV_size] at h1
  exact h1 st
theorem vx_fastZ {D : va_G} {cl : List vw_C} {ws : va_W} {tys : List (ClassId × FieldType)} {a : Nat} (hexec : p.tables.exec = Jvm.exec) (hb : c.code = cc) (hK : va_K D cl tys s) (hP : va_P D cl ws H) (q0 t0 : Nat) {cA : ClassId} {n : Nat} {f : Nat → UInt32} (ha : ws[q0]? = some (a, .inl (cA, n, .inr (.inr (.inl f))))) (ht : tys[t0]? = some (cA, .float)) {i : Int32} {x : UInt32} (hout : ¬ vp_in i n) (hdg : decode cc pc = .ok (.fastore, 1))
    (k : ∀ tx : String, tx = (toString "Index " ++ toString i ++ toString " out of bounds for length " ++ toString n : String) → vx_Note p l e R s m args below meth c H locs cells slots Q (F0 m pc ls rest) "java/lang/ArrayIndexOutOfBoundsException" tx) : W p l e R s m args below meth c H locs cells slots Q (F0 m pc ls (.float x :: .int i :: .ref a :: rest)) := by
  intro T hT X
  obtain ⟨t, st, q⟩ := k _ rfl T hT X
  refine ⟨t, ?_, q⟩
  have h1 := X.fastoreOut hexec (by rw [hT]; exact hP q0 _ ha) ((hK.2 t0 _ ht).1 n (fun j => .float (f j))) (j := i) (by show (i < 0 ∨ (arrV _ _ _).slots.size ≤ _); rw [arrV_size]; exact Classical.byContradiction hout) (g := F0 m pc ls (.float x :: .int i :: .ref a :: rest)) rfl (rest := rest) rfl (by rw [hb]; exact hdg) t
  simp only [arrV_size] at h1
  exact h1 st
theorem vx_daldZ {D : va_G} {cl : List vw_C} {ws : va_W} {tys : List (ClassId × FieldType)} {a : Nat} (hexec : p.tables.exec = Jvm.exec) (hb : c.code = cc) (hK : va_K D cl tys s) (hP : va_P D cl ws H) (q0 t0 : Nat) {cA : ClassId} {n : Nat} {f : Nat → UInt64} (ha : ws[q0]? = some (a, .inl (cA, n, .inr (.inr (.inr (.inl f)))))) (ht : tys[t0]? = some (cA, .double)) {i : Int32} (hout : ¬ vp_in i n) (hdg : decode cc pc = .ok (.daload, 1))
    (k : ∀ tx : String, tx = (toString "Index " ++ toString i ++ toString " out of bounds for length " ++ toString n : String) → vx_Note p l e R s m args below meth c H locs cells slots Q (F0 m pc ls rest) "java/lang/ArrayIndexOutOfBoundsException" tx) : W p l e R s m args below meth c H locs cells slots Q (F0 m pc ls (.int i :: .ref a :: rest)) := by
  intro T hT X
  obtain ⟨t, st, q⟩ := k _ rfl T hT X
  refine ⟨t, ?_, q⟩
  have h1 := X.daloadOut hexec (by rw [hT]; exact hP q0 _ ha) ((hK.2 t0 _ ht).1 n (fun j => .double (f j))) (j := i) (by show (i < 0 ∨ (arrV _ _ _).slots.size ≤ _); rw [arrV_size]; exact Classical.byContradiction hout) (g := F0 m pc ls (.int i :: .ref a :: rest)) rfl (rest := rest) rfl (by rw [hb]; exact hdg) t
  simp only [arrV_size] at h1
  exact h1 st
theorem vx_dastZ {D : va_G} {cl : List vw_C} {ws : va_W} {tys : List (ClassId × FieldType)} {a : Nat} (hexec : p.tables.exec = Jvm.exec) (hb : c.code = cc) (hK : va_K D cl tys s) (hP : va_P D cl ws H) (q0 t0 : Nat) {cA : ClassId} {n : Nat} {f : Nat → UInt64} (ha : ws[q0]? = some (a, .inl (cA, n, .inr (.inr (.inr (.inl f)))))) (ht : tys[t0]? = some (cA, .double)) {i : Int32} {x : UInt64} (hout : ¬ vp_in i n) (hdg : decode cc pc = .ok (.dastore, 1))
    (k : ∀ tx : String, tx = (toString "Index " ++ toString i ++ toString " out of bounds for length " ++ toString n : String) → vx_Note p l e R s m args below meth c H locs cells slots Q (F0 m pc ls rest) "java/lang/ArrayIndexOutOfBoundsException" tx) : W p l e R s m args below meth c H locs cells slots Q (F0 m pc ls (.double x :: .int i :: .ref a :: rest)) := by
  intro T hT X
  obtain ⟨t, st, q⟩ := k _ rfl T hT X
  refine ⟨t, ?_, q⟩
  have h1 := X.dastoreOut hexec (by rw [hT]; exact hP q0 _ ha) ((hK.2 t0 _ ht).1 n (fun j => .double (f j))) (j := i) (by show (i < 0 ∨ (arrV _ _ _).slots.size ≤ _); rw [arrV_size]; exact Classical.byContradiction hout) (g := F0 m pc ls (.double x :: .int i :: .ref a :: rest)) rfl (rest := rest) rfl (by rw [hb]; exact hdg) t
  simp only [arrV_size] at h1
  exact h1 st
theorem vx_arraylengthN (hexec : p.tables.exec = Jvm.exec) (hb : c.code = cc) (hdg : decode cc pc = .ok (.arraylength, 1)) (k : vx_NoteN p l e R s m args below meth c H locs cells slots Q (F0 m pc ls rest)) : W p l e R s m args below meth c H locs cells slots Q (F0 m pc ls (.null :: rest)) := by
  intro T hT X
  obtain ⟨t, st, q⟩ := k T hT X
  exact ⟨t, X.arraylengthNull hexec (g := F0 m pc ls (.null :: rest)) rfl (rest := rest) rfl (by rw [hb]; exact hdg) t st, q⟩
theorem vx_ialoadN (hexec : p.tables.exec = Jvm.exec) (hb : c.code = cc) {i : Int32} (hdg : decode cc pc = .ok (.iaload, 1)) (k : vx_NoteN p l e R s m args below meth c H locs cells slots Q (F0 m pc ls rest)) : W p l e R s m args below meth c H locs cells slots Q (F0 m pc ls (.int i :: .null :: rest)) := by
  intro T hT X
  obtain ⟨t, st, q⟩ := k T hT X
  exact ⟨t, X.ialoadNull hexec (g := F0 m pc ls (.int i :: .null :: rest)) rfl (rest := rest) rfl (by rw [hb]; exact hdg) t st, q⟩
theorem vx_laloadN (hexec : p.tables.exec = Jvm.exec) (hb : c.code = cc) {i : Int32} (hdg : decode cc pc = .ok (.laload, 1)) (k : vx_NoteN p l e R s m args below meth c H locs cells slots Q (F0 m pc ls rest)) : W p l e R s m args below meth c H locs cells slots Q (F0 m pc ls (.int i :: .null :: rest)) := by
  intro T hT X
  obtain ⟨t, st, q⟩ := k T hT X
  exact ⟨t, X.laloadNull hexec (g := F0 m pc ls (.int i :: .null :: rest)) rfl (rest := rest) rfl (by rw [hb]; exact hdg) t st, q⟩
theorem vx_faloadN (hexec : p.tables.exec = Jvm.exec) (hb : c.code = cc) {i : Int32} (hdg : decode cc pc = .ok (.faload, 1)) (k : vx_NoteN p l e R s m args below meth c H locs cells slots Q (F0 m pc ls rest)) : W p l e R s m args below meth c H locs cells slots Q (F0 m pc ls (.int i :: .null :: rest)) := by
  intro T hT X
  obtain ⟨t, st, q⟩ := k T hT X
  exact ⟨t, X.faloadNull hexec (g := F0 m pc ls (.int i :: .null :: rest)) rfl (rest := rest) rfl (by rw [hb]; exact hdg) t st, q⟩
theorem vx_daloadN (hexec : p.tables.exec = Jvm.exec) (hb : c.code = cc) {i : Int32} (hdg : decode cc pc = .ok (.daload, 1)) (k : vx_NoteN p l e R s m args below meth c H locs cells slots Q (F0 m pc ls rest)) : W p l e R s m args below meth c H locs cells slots Q (F0 m pc ls (.int i :: .null :: rest)) := by
  intro T hT X
  obtain ⟨t, st, q⟩ := k T hT X
  exact ⟨t, X.daloadNull hexec (g := F0 m pc ls (.int i :: .null :: rest)) rfl (rest := rest) rfl (by rw [hb]; exact hdg) t st, q⟩
theorem vx_aaloadN (hexec : p.tables.exec = Jvm.exec) (hb : c.code = cc) {i : Int32} (hdg : decode cc pc = .ok (.aaload, 1)) (k : vx_NoteN p l e R s m args below meth c H locs cells slots Q (F0 m pc ls rest)) : W p l e R s m args below meth c H locs cells slots Q (F0 m pc ls (.int i :: .null :: rest)) := by
  intro T hT X
  obtain ⟨t, st, q⟩ := k T hT X
  exact ⟨t, X.aaloadNull hexec (g := F0 m pc ls (.int i :: .null :: rest)) rfl (rest := rest) rfl (by rw [hb]; exact hdg) t st, q⟩
theorem vx_baloadN (hexec : p.tables.exec = Jvm.exec) (hb : c.code = cc) {i : Int32} (hdg : decode cc pc = .ok (.baload, 1)) (k : vx_NoteN p l e R s m args below meth c H locs cells slots Q (F0 m pc ls rest)) : W p l e R s m args below meth c H locs cells slots Q (F0 m pc ls (.int i :: .null :: rest)) := by
  intro T hT X
  obtain ⟨t, st, q⟩ := k T hT X
  exact ⟨t, X.baloadNull hexec (g := F0 m pc ls (.int i :: .null :: rest)) rfl (rest := rest) rfl (by rw [hb]; exact hdg) t st, q⟩
theorem vx_caloadN (hexec : p.tables.exec = Jvm.exec) (hb : c.code = cc) {i : Int32} (hdg : decode cc pc = .ok (.caload, 1)) (k : vx_NoteN p l e R s m args below meth c H locs cells slots Q (F0 m pc ls rest)) : W p l e R s m args below meth c H locs cells slots Q (F0 m pc ls (.int i :: .null :: rest)) := by
  intro T hT X
  obtain ⟨t, st, q⟩ := k T hT X
  exact ⟨t, X.caloadNull hexec (g := F0 m pc ls (.int i :: .null :: rest)) rfl (rest := rest) rfl (by rw [hb]; exact hdg) t st, q⟩
theorem vx_saloadN (hexec : p.tables.exec = Jvm.exec) (hb : c.code = cc) {i : Int32} (hdg : decode cc pc = .ok (.saload, 1)) (k : vx_NoteN p l e R s m args below meth c H locs cells slots Q (F0 m pc ls rest)) : W p l e R s m args below meth c H locs cells slots Q (F0 m pc ls (.int i :: .null :: rest)) := by
  intro T hT X
  obtain ⟨t, st, q⟩ := k T hT X
  exact ⟨t, X.saloadNull hexec (g := F0 m pc ls (.int i :: .null :: rest)) rfl (rest := rest) rfl (by rw [hb]; exact hdg) t st, q⟩
theorem vx_iastoreN (hexec : p.tables.exec = Jvm.exec) (hb : c.code = cc) {x : Int32} {i : Int32} (hdg : decode cc pc = .ok (.iastore, 1)) (k : vx_NoteN p l e R s m args below meth c H locs cells slots Q (F0 m pc ls rest)) : W p l e R s m args below meth c H locs cells slots Q (F0 m pc ls (.int x :: .int i :: .null :: rest)) := by
  intro T hT X
  obtain ⟨t, st, q⟩ := k T hT X
  exact ⟨t, X.iastoreNull hexec (g := F0 m pc ls (.int x :: .int i :: .null :: rest)) rfl (rest := rest) rfl (by rw [hb]; exact hdg) t st, q⟩
theorem vx_lastoreN (hexec : p.tables.exec = Jvm.exec) (hb : c.code = cc) {x : Int64} {i : Int32} (hdg : decode cc pc = .ok (.lastore, 1)) (k : vx_NoteN p l e R s m args below meth c H locs cells slots Q (F0 m pc ls rest)) : W p l e R s m args below meth c H locs cells slots Q (F0 m pc ls (.long x :: .int i :: .null :: rest)) := by
  intro T hT X
  obtain ⟨t, st, q⟩ := k T hT X
  exact ⟨t, X.lastoreNull hexec (g := F0 m pc ls (.long x :: .int i :: .null :: rest)) rfl (rest := rest) rfl (by rw [hb]; exact hdg) t st, q⟩
theorem vx_fastoreN (hexec : p.tables.exec = Jvm.exec) (hb : c.code = cc) {x : UInt32} {i : Int32} (hdg : decode cc pc = .ok (.fastore, 1)) (k : vx_NoteN p l e R s m args below meth c H locs cells slots Q (F0 m pc ls rest)) : W p l e R s m args below meth c H locs cells slots Q (F0 m pc ls (.float x :: .int i :: .null :: rest)) := by
  intro T hT X
  obtain ⟨t, st, q⟩ := k T hT X
  exact ⟨t, X.fastoreNull hexec (g := F0 m pc ls (.float x :: .int i :: .null :: rest)) rfl (rest := rest) rfl (by rw [hb]; exact hdg) t st, q⟩
theorem vx_dastoreN (hexec : p.tables.exec = Jvm.exec) (hb : c.code = cc) {x : UInt64} {i : Int32} (hdg : decode cc pc = .ok (.dastore, 1)) (k : vx_NoteN p l e R s m args below meth c H locs cells slots Q (F0 m pc ls rest)) : W p l e R s m args below meth c H locs cells slots Q (F0 m pc ls (.double x :: .int i :: .null :: rest)) := by
  intro T hT X
  obtain ⟨t, st, q⟩ := k T hT X
  exact ⟨t, X.dastoreNull hexec (g := F0 m pc ls (.double x :: .int i :: .null :: rest)) rfl (rest := rest) rfl (by rw [hb]; exact hdg) t st, q⟩
theorem vx_bastoreN (hexec : p.tables.exec = Jvm.exec) (hb : c.code = cc) {x : Int32} {i : Int32} (hdg : decode cc pc = .ok (.bastore, 1)) (k : vx_NoteN p l e R s m args below meth c H locs cells slots Q (F0 m pc ls rest)) : W p l e R s m args below meth c H locs cells slots Q (F0 m pc ls (.int x :: .int i :: .null :: rest)) := by
  intro T hT X
  obtain ⟨t, st, q⟩ := k T hT X
  exact ⟨t, X.bastoreNull hexec (g := F0 m pc ls (.int x :: .int i :: .null :: rest)) rfl (rest := rest) rfl (by rw [hb]; exact hdg) t st, q⟩
theorem vx_castoreN (hexec : p.tables.exec = Jvm.exec) (hb : c.code = cc) {x : Int32} {i : Int32} (hdg : decode cc pc = .ok (.castore, 1)) (k : vx_NoteN p l e R s m args below meth c H locs cells slots Q (F0 m pc ls rest)) : W p l e R s m args below meth c H locs cells slots Q (F0 m pc ls (.int x :: .int i :: .null :: rest)) := by
  intro T hT X
  obtain ⟨t, st, q⟩ := k T hT X
  exact ⟨t, X.castoreNull hexec (g := F0 m pc ls (.int x :: .int i :: .null :: rest)) rfl (rest := rest) rfl (by rw [hb]; exact hdg) t st, q⟩
theorem vx_sastoreN (hexec : p.tables.exec = Jvm.exec) (hb : c.code = cc) {x : Int32} {i : Int32} (hdg : decode cc pc = .ok (.sastore, 1)) (k : vx_NoteN p l e R s m args below meth c H locs cells slots Q (F0 m pc ls rest)) : W p l e R s m args below meth c H locs cells slots Q (F0 m pc ls (.int x :: .int i :: .null :: rest)) := by
  intro T hT X
  obtain ⟨t, st, q⟩ := k T hT X
  exact ⟨t, X.sastoreNull hexec (g := F0 m pc ls (.int x :: .int i :: .null :: rest)) rfl (rest := rest) rfl (by rw [hb]; exact hdg) t st, q⟩
theorem vx_invokeN {own C : String} {index maxL : Nat} {y : MethodName} {bytes : ByteArray} {ret : Option FieldType} (hexec : p.tables.exec = Jvm.exec) (hb : c.code = cc) (hown : s.vm.findClass own = some m.cls) (hlink : (Cond.methodLink own index y).before args s = true) (hinst : (Cond.instanceMethod y).before args s = true) (hcode : (Cond.code y bytes maxL ret).before args s = true) (hsel : (Cond.selects C y y).before args s = true)
    (hx : y.cls ≠ "java/lang/invoke/MethodHandle" ∧ y.cls ≠ "java/lang/invoke/VarHandle") {As : List Value} (hlen : (parseMethodDescriptor y.desc).map (fun d => d.parameters.length) = some As.length) (hdg : decode cc pc = .ok (.invokevirtual index, 3))
    (k : vx_NoteN p l e R s m args below meth c H locs cells slots Q (F0 m pc ls rest)) {st0 : List Value} (hst : st0 = As.reverse ++ .null :: rest) : W p l e R s m args below meth c H locs cells slots Q (F0 m pc ls st0) := by
  intro T hT X
  obtain ⟨r0, r, hn, hrm, hstR, hsigR⟩ := va_Decl.of hinst hcode
  obtain ⟨c2, r2, m2, q1, q2, q3, q4, kP, hkP, hkPi⟩ := Cond.selects_spec hsel
  cases hn.symm.trans q3
  have hl9 : As.length = r.sig.parameters.length := by
    rw [hsigR] at hlen
    exact (Option.some.inj hlen).symm
  obtain ⟨vm', X1, st1⟩ := X.invokevirtualNull hexec hown hlink hn hrm hstR hkP hkPi hx (g := F0 m pc ls st0) rfl (argsL := As) (rest := rest) hl9 hst (by rw [hb]; exact hdg)
  obtain ⟨t, st, q⟩ := k (T.setVm vm') hT X1
  exact ⟨t, st1 t st, q⟩
theorem vx_newarrayZ {atype : ArrayType} (hexec : p.tables.exec = Jvm.exec) (hb : c.code = cc) {n : Int32} (h0 : n < 0) (hdg : decode cc pc = .ok (.newarray atype, 2)) (k : ∀ tx : String, tx = toString n → vx_Note p l e R s m args below meth c H locs cells slots Q (F0 m pc ls rest) "java/lang/NegativeArraySizeException" tx) : W p l e R s m args below meth c H locs cells slots Q (F0 m pc ls (.int n :: rest)) := by
  intro T hT X
  obtain ⟨t, st, q⟩ := k _ rfl T hT X
  exact ⟨t, X.newarrayNegative hexec (g := F0 m pc ls (.int n :: rest)) rfl h0 (rest := rest) rfl (by rw [hb]; exact hdg) t st, q⟩
end
end VXM
/-! ===== END ===== -/
end
section
/-! ===== BEGIN printed: names, fields, word lists, decode rows ===== -/
def RX0 : String := "HatReservations$1"
def TX0 : u_T := fun k => match k with
  | _ => ("", "", "", false)
def tyX0 : Nat → FieldType := fun k => match k with
  | _ => .int
abbrev wsX00 : List Cond := u_ws RX0 TX0 0
theorem nmX0 : ∀ a, a < 0 → ∀ b, b < 0 → a ≠ b → (TX0 a).2.1 ≠ (TX0 b).2.1 := by decide +kernel
theorem tyX0_ok : ∀ k, k < 0 → parseFieldDescriptor (TX0 k).2.2.1 = some (tyX0 k) := by decide +kernel
def RX1 : String := "HatReservations$Command"
def TX1 : u_T := fun k => match k with
  | _ => ("", "", "", false)
def tyX1 : Nat → FieldType := fun k => match k with
  | _ => .int
abbrev wsX10 : List Cond := u_ws RX1 TX1 0
theorem nmX1 : ∀ a, a < 0 → ∀ b, b < 0 → a ≠ b → (TX1 a).2.1 ≠ (TX1 b).2.1 := by decide +kernel
theorem tyX1_ok : ∀ k, k < 0 → parseFieldDescriptor (TX1 k).2.2.1 = some (tyX1 k) := by decide +kernel
abbrev cX1_refusalIn : ByteArray := prog_3_method_4_code
def yX1_refusalIn : MethodName := ⟨RX1, "refusalIn", "(LHatReservations$Hall;II)I"⟩
abbrev cX1_carryOutIn : ByteArray := prog_3_method_5_code
def yX1_carryOutIn : MethodName := ⟨RX1, "carryOutIn", "(LHatReservations$Hall;II)V"⟩
def RX2 : String := "HatReservations$CommandText"
def TX2 : u_T := fun k => match k with
  | 0 => ("HatReservations$CommandText", "characters", "[C", true)
  | 1 => ("HatReservations$CommandText", "length", "I", false)
  | 2 => ("HatReservations$CommandText", "commands", "[LHatReservations$Command;", true)
  | 3 => ("HatReservations$CommandText", "firsts", "[I", true)
  | 4 => ("HatReservations$CommandText", "seconds", "[I", true)
  | 5 => ("HatReservations$CommandText", "commandCount", "I", false)
  | _ => ("HatReservations$CommandText", "position", "I", false)
def tyX2 : Nat → FieldType := fun k => match k with
  | 0 => .array .char
  | 1 => .int
  | 2 => .array (.object "HatReservations$Command")
  | 3 => .array .int
  | 4 => .array .int
  | 5 => .int
  | _ => .int
abbrev wsX20 : List Cond := u_ws RX2 TX2 7
theorem nmX2 : ∀ a, a < 7 → ∀ b, b < 7 → a ≠ b → (TX2 a).2.1 ≠ (TX2 b).2.1 := by decide +kernel
theorem tyX2_ok : ∀ k, k < 7 → parseFieldDescriptor (TX2 k).2.2.1 = some (tyX2 k) := by decide +kernel
abbrev cX2_init : ByteArray := prog_4_method_1_code
def yX2_init : MethodName := ⟨RX2, "<init>", "()V"⟩
abbrev cX2_isFull : ByteArray := prog_4_method_2_code
def yX2_isFull : MethodName := ⟨RX2, "isFull", "()Z"⟩
abbrev cX2_add : ByteArray := prog_4_method_3_code
def yX2_add : MethodName := ⟨RX2, "add", "(C)I"⟩
abbrev cX2_empty : ByteArray := prog_4_method_4_code
def yX2_empty : MethodName := ⟨RX2, "empty", "()V"⟩
abbrev cX2_read : ByteArray := prog_4_method_5_code
def yX2_read : MethodName := ⟨RX2, "read", "()Z"⟩
abbrev cX2_readCommand : ByteArray := prog_4_method_6_code
def yX2_readCommand : MethodName := ⟨RX2, "readCommand", "(I)Z"⟩
abbrev cX2_readKeyword : ByteArray := prog_4_method_7_code
def yX2_readKeyword : MethodName := ⟨RX2, "readKeyword", "()LHatReservations$Command;"⟩
abbrev cX2_countMatched : ByteArray := prog_4_method_8_code
def yX2_countMatched : MethodName := ⟨RX2, "countMatched", "(Ljava/lang/String;I)I"⟩
abbrev cX2_readNumber : ByteArray := prog_4_method_9_code
def yX2_readNumber : MethodName := ⟨RX2, "readNumber", "(I)I"⟩
abbrev cX2_standsOnDigit : ByteArray := prog_4_method_10_code
def yX2_standsOnDigit : MethodName := ⟨RX2, "standsOnDigit", "()Z"⟩
abbrev cX2_readSign : ByteArray := prog_4_method_11_code
def yX2_readSign : MethodName := ⟨RX2, "readSign", "(C)Z"⟩
def RX3 : String := "HatReservations$Hall"
def TX3 : u_T := fun k => match k with
  | 0 => ("HatReservations$Hall", "feathers", "[I", true)
  | 1 => ("HatReservations$Hall", "brims", "[I", true)
  | 2 => ("HatReservations$Hall", "hatChairs", "[I", true)
  | 3 => ("HatReservations$Hall", "touchTimes", "[I", true)
  | 4 => ("HatReservations$Hall", "covers", "[J", true)
  | 5 => ("HatReservations$Hall", "coatChairs", "[I", true)
  | 6 => ("HatReservations$Hall", "coatPositions", "[I", true)
  | 7 => ("HatReservations$Hall", "coatOrders", "[I", true)
  | 8 => ("HatReservations$Hall", "coatsEverLeft", "I", false)
  | 9 => ("HatReservations$Hall", "guests", "I", false)
  | 10 => ("HatReservations$Hall", "time", "I", false)
  | 11 => ("HatReservations$Hall", "swept", "I", false)
  | 12 => ("HatReservations$Hall", "lapsed", "I", false)
  | 13 => ("HatReservations$Hall", "taken", "I", false)
  | _ => ("HatReservations$Hall", "won", "I", false)
def tyX3 : Nat → FieldType := fun k => match k with
  | 0 => .array .int
  | 1 => .array .int
  | 2 => .array .int
  | 3 => .array .int
  | 4 => .array .long
  | 5 => .array .int
  | 6 => .array .int
  | 7 => .array .int
  | 8 => .int
  | 9 => .int
  | 10 => .int
  | 11 => .int
  | 12 => .int
  | 13 => .int
  | _ => .int
abbrev wsX30 : List Cond := u_ws RX3 TX3 15
theorem nmX3 : ∀ a, a < 15 → ∀ b, b < 15 → a ≠ b → (TX3 a).2.1 ≠ (TX3 b).2.1 := by decide +kernel
theorem tyX3_ok : ∀ k, k < 15 → parseFieldDescriptor (TX3 k).2.2.1 = some (tyX3 k) := by decide +kernel
abbrev cX3_init : ByteArray := prog_5_method_1_code
def yX3_init : MethodName := ⟨RX3, "<init>", "()V"⟩
abbrev cX3_become : ByteArray := prog_5_method_2_code
def yX3_become : MethodName := ⟨RX3, "become", "(LHatReservations$Hall;)V"⟩
abbrev cX3_hasGuest : ByteArray := prog_5_method_3_code
def yX3_hasGuest : MethodName := ⟨RX3, "hasGuest", "(I)Z"⟩
abbrev cX3_hasChair : ByteArray := prog_5_method_4_code
def yX3_hasChair : MethodName := ⟨RX3, "hasChair", "(I)Z"⟩
abbrev cX3_refusalOfGuest : ByteArray := prog_5_method_5_code
def yX3_refusalOfGuest : MethodName := ⟨RX3, "refusalOfGuest", "(II)I"⟩
abbrev cX3_refusalOfFeather : ByteArray := prog_5_method_6_code
def yX3_refusalOfFeather : MethodName := ⟨RX3, "refusalOfFeather", "(I)I"⟩
abbrev cX3_refusalOfHat : ByteArray := prog_5_method_7_code
def yX3_refusalOfHat : MethodName := ⟨RX3, "refusalOfHat", "(II)I"⟩
abbrev cX3_refusalWithoutHat : ByteArray := prog_5_method_8_code
def yX3_refusalWithoutHat : MethodName := ⟨RX3, "refusalWithoutHat", "(I)I"⟩
abbrev cX3_refusalOfCoat : ByteArray := prog_5_method_9_code
def yX3_refusalOfCoat : MethodName := ⟨RX3, "refusalOfCoat", "(II)I"⟩
abbrev cX3_refusalWithoutCoat : ByteArray := prog_5_method_10_code
def yX3_refusalWithoutCoat : MethodName := ⟨RX3, "refusalWithoutCoat", "(I)I"⟩
abbrev cX3_refusalOfContest : ByteArray := prog_5_method_11_code
def yX3_refusalOfContest : MethodName := ⟨RX3, "refusalOfContest", "(II)I"⟩
abbrev cX3_refusalOfPass : ByteArray := prog_5_method_12_code
def yX3_refusalOfPass : MethodName := ⟨RX3, "refusalOfPass", "(I)I"⟩
abbrev cX3_refusalOfSweep : ByteArray := prog_5_method_13_code
def yX3_refusalOfSweep : MethodName := ⟨RX3, "refusalOfSweep", "(I)I"⟩
abbrev cX3_welcome : ByteArray := prog_5_method_14_code
def yX3_welcome : MethodName := ⟨RX3, "welcome", "(II)I"⟩
abbrev cX3_gainFeather : ByteArray := prog_5_method_15_code
def yX3_gainFeather : MethodName := ⟨RX3, "gainFeather", "(I)I"⟩
abbrev cX3_hatIsPlaced : ByteArray := prog_5_method_16_code
def yX3_hatIsPlaced : MethodName := ⟨RX3, "hatIsPlaced", "(I)Z"⟩
abbrev cX3_coverOf : ByteArray := prog_5_method_17_code
def yX3_coverOf : MethodName := ⟨RX3, "coverOf", "(I)I"⟩
abbrev cX3_idleTime : ByteArray := prog_5_method_18_code
def yX3_idleTime : MethodName := ⟨RX3, "idleTime", "(I)I"⟩
abbrev cX3_startIdleTimeAgain : ByteArray := prog_5_method_19_code
def yX3_startIdleTimeAgain : MethodName := ⟨RX3, "startIdleTimeAgain", "(I)I"⟩
abbrev cX3_putHat : ByteArray := prog_5_method_20_code
def yX3_putHat : MethodName := ⟨RX3, "putHat", "(II)I"⟩
abbrev cX3_reach : ByteArray := prog_5_method_21_code
def yX3_reach : MethodName := ⟨RX3, "reach", "(IIIJ)J"⟩
abbrev cX3_liftHat : ByteArray := prog_5_method_22_code
def yX3_liftHat : MethodName := ⟨RX3, "liftHat", "(I)J"⟩
abbrev cX3_giveChairsBack : ByteArray := prog_5_method_23_code
def yX3_giveChairsBack : MethodName := ⟨RX3, "giveChairsBack", "(I)I"⟩
abbrev cX3_putCoat : ByteArray := prog_5_method_24_code
def yX3_putCoat : MethodName := ⟨RX3, "putCoat", "(II)I"⟩
abbrev cX3_pullCoat : ByteArray := prog_5_method_25_code
def yX3_pullCoat : MethodName := ⟨RX3, "pullCoat", "(I)I"⟩
abbrev cX3_coatsOn : ByteArray := prog_5_method_26_code
def yX3_coatsOn : MethodName := ⟨RX3, "coatsOn", "(I)I"⟩
abbrev cX3_ownerAt : ByteArray := prog_5_method_27_code
def yX3_ownerAt : MethodName := ⟨RX3, "ownerAt", "(II)I"⟩
abbrev cX3_claimantByQueue : ByteArray := prog_5_method_28_code
def yX3_claimantByQueue : MethodName := ⟨RX3, "claimantByQueue", "(I)I"⟩
abbrev cX3_claimantByOrder : ByteArray := prog_5_method_29_code
def yX3_claimantByOrder : MethodName := ⟨RX3, "claimantByOrder", "(I)I"⟩
abbrev cX3_offerChairs : ByteArray := prog_5_method_30_code
def yX3_offerChairs : MethodName := ⟨RX3, "offerChairs", "(J)V"⟩
abbrev cX3_offerChair : ByteArray := prog_5_method_31_code
def yX3_offerChair : MethodName := ⟨RX3, "offerChair", "(I)V"⟩
abbrev cX3_isStronger : ByteArray := prog_5_method_32_code
def yX3_isStronger : MethodName := ⟨RX3, "isStronger", "(II)Z"⟩
abbrev cX3_fightFor : ByteArray := prog_5_method_33_code
def yX3_fightFor : MethodName := ⟨RX3, "fightFor", "(II)Z"⟩
abbrev cX3_loseChair : ByteArray := prog_5_method_34_code
def yX3_loseChair : MethodName := ⟨RX3, "loseChair", "(II)J"⟩
abbrev cX3_letPass : ByteArray := prog_5_method_35_code
def yX3_letPass : MethodName := ⟨RX3, "letPass", "(I)I"⟩
abbrev cX3_sweepHats : ByteArray := prog_5_method_36_code
def yX3_sweepHats : MethodName := ⟨RX3, "sweepHats", "(I)I"⟩
abbrev cX3_idlest : ByteArray := prog_5_method_37_code
def yX3_idlest : MethodName := ⟨RX3, "idlest", "()I"⟩
abbrev cX3_covererAt : ByteArray := prog_5_method_38_code
def yX3_covererAt : MethodName := ⟨RX3, "covererAt", "(I)I"⟩
abbrev cX3_coveredChairs : ByteArray := prog_5_method_39_code
def yX3_coveredChairs : MethodName := ⟨RX3, "coveredChairs", "()J"⟩
abbrev cX3_countByChair : ByteArray := prog_5_method_40_code
def yX3_countByChair : MethodName := ⟨RX3, "countByChair", "()I"⟩
abbrev cX3_countPlaced : ByteArray := prog_5_method_42_code
def yX3_countPlaced : MethodName := ⟨RX3, "countPlaced", "()I"⟩
abbrev cX3_freeRunByScan : ByteArray := prog_5_method_43_code
def yX3_freeRunByScan : MethodName := ⟨RX3, "freeRunByScan", "(I)I"⟩
abbrev cX3_freeRunByShift : ByteArray := prog_5_method_44_code
def yX3_freeRunByShift : MethodName := ⟨RX3, "freeRunByShift", "(I)I"⟩
abbrev cX3_guestBehind : ByteArray := prog_5_method_45_code
def yX3_guestBehind : MethodName := ⟨RX3, "guestBehind", "(I)I"⟩
abbrev cX3_countBefore : ByteArray := prog_5_method_46_code
def yX3_countBefore : MethodName := ⟨RX3, "countBefore", "(I)I"⟩
abbrev cX3_precedes : ByteArray := prog_5_method_47_code
def yX3_precedes : MethodName := ⟨RX3, "precedes", "(II)Z"⟩
abbrev cX3_signOf : ByteArray := prog_5_method_48_code
def yX3_signOf : MethodName := ⟨RX3, "signOf", "(I)C"⟩
def RX4 : String := "HatReservations$History"
def TX4 : u_T := fun k => match k with
  | 0 => ("HatReservations$History", "halls", "[LHatReservations$Hall;", true)
  | 1 => ("HatReservations$History", "spare", "I", false)
  | _ => ("HatReservations$History", "count", "I", false)
def tyX4 : Nat → FieldType := fun k => match k with
  | 0 => .array (.object "HatReservations$Hall")
  | 1 => .int
  | _ => .int
abbrev wsX40 : List Cond := u_ws RX4 TX4 3
theorem nmX4 : ∀ a, a < 3 → ∀ b, b < 3 → a ≠ b → (TX4 a).2.1 ≠ (TX4 b).2.1 := by decide +kernel
theorem tyX4_ok : ∀ k, k < 3 → parseFieldDescriptor (TX4 k).2.2.1 = some (tyX4 k) := by decide +kernel
abbrev cX4_init : ByteArray := prog_6_method_1_code
def yX4_init : MethodName := ⟨RX4, "<init>", "()V"⟩
abbrev cX4_remember : ByteArray := prog_6_method_2_code
def yX4_remember : MethodName := ⟨RX4, "remember", "(LHatReservations$Hall;)V"⟩
abbrev cX4_prepare : ByteArray := prog_6_method_3_code
def yX4_prepare : MethodName := ⟨RX4, "prepare", "(LHatReservations$Hall;)V"⟩
abbrev cX4_keep : ByteArray := prog_6_method_4_code
def yX4_keep : MethodName := ⟨RX4, "keep", "()V"⟩
abbrev cX4_takeBack : ByteArray := prog_6_method_5_code
def yX4_takeBack : MethodName := ⟨RX4, "takeBack", "(LHatReservations$Hall;)V"⟩
abbrev cX4_stepBack : ByteArray := prog_6_method_6_code
def yX4_stepBack : MethodName := ⟨RX4, "stepBack", "(LHatReservations$Hall;)I"⟩
abbrev cX4_forget : ByteArray := prog_6_method_7_code
def yX4_forget : MethodName := ⟨RX4, "forget", "()V"⟩
def RX5 : String := "HatReservations"
def TX5 : u_T := fun k => match k with
  | 0 => ("HatReservations", "hall", "LHatReservations$Hall;", true)
  | 1 => ("HatReservations", "snapshot", "LHatReservations$Hall;", true)
  | 2 => ("HatReservations", "history", "LHatReservations$History;", true)
  | 3 => ("HatReservations", "commandText", "LHatReservations$CommandText;", true)
  | 4 => ("HatReservations", "line", "[C", true)
  | 5 => ("HatReservations", "lineLength", "I", false)
  | 6 => ("HatReservations", "hasSnapshot", "Z", false)
  | 7 => ("HatReservations", "lastErrorPosition", "I", false)
  | 8 => ("HatReservations", "lastFailedCommand", "I", false)
  | _ => ("HatReservations", "lastFailedException", "I", false)
def tyX5 : Nat → FieldType := fun k => match k with
  | 0 => .object "HatReservations$Hall"
  | 1 => .object "HatReservations$Hall"
  | 2 => .object "HatReservations$History"
  | 3 => .object "HatReservations$CommandText"
  | 4 => .array .char
  | 5 => .int
  | 6 => .boolean
  | 7 => .int
  | 8 => .int
  | _ => .int
abbrev wsX50 : List Cond := u_ws RX5 TX5 10
theorem nmX5 : ∀ a, a < 10 → ∀ b, b < 10 → a ≠ b → (TX5 a).2.1 ≠ (TX5 b).2.1 := by decide +kernel
theorem tyX5_ok : ∀ k, k < 10 → parseFieldDescriptor (TX5 k).2.2.1 = some (tyX5 k) := by decide +kernel
abbrev cX5_init : ByteArray := prog_1_method_1_code
def yX5_init : MethodName := ⟨RX5, "<init>", "()V"⟩
abbrev cX5_addGuest : ByteArray := prog_1_method_2_code
def yX5_addGuest : MethodName := ⟨RX5, "addGuest", "(II)I"⟩
abbrev cX5_giveFeather : ByteArray := prog_1_method_3_code
def yX5_giveFeather : MethodName := ⟨RX5, "giveFeather", "(I)I"⟩
abbrev cX5_placeHat : ByteArray := prog_1_method_4_code
def yX5_placeHat : MethodName := ⟨RX5, "placeHat", "(II)I"⟩
abbrev cX5_removeHat : ByteArray := prog_1_method_5_code
def yX5_removeHat : MethodName := ⟨RX5, "removeHat", "(I)I"⟩
abbrev cX5_touchHat : ByteArray := prog_1_method_6_code
def yX5_touchHat : MethodName := ⟨RX5, "touchHat", "(I)I"⟩
abbrev cX5_guestCount : ByteArray := prog_1_method_7_code
def yX5_guestCount : MethodName := ⟨RX5, "guestCount", "()I"⟩
abbrev cX5_feathers : ByteArray := prog_1_method_8_code
def yX5_feathers : MethodName := ⟨RX5, "feathers", "(I)I"⟩
abbrev cX5_brim : ByteArray := prog_1_method_9_code
def yX5_brim : MethodName := ⟨RX5, "brim", "(I)I"⟩
abbrev cX5_isPlaced : ByteArray := prog_1_method_10_code
def yX5_isPlaced : MethodName := ⟨RX5, "isPlaced", "(I)Z"⟩
abbrev cX5_hatChair : ByteArray := prog_1_method_11_code
def yX5_hatChair : MethodName := ⟨RX5, "hatChair", "(I)I"⟩
abbrev cX5_coverSize : ByteArray := prog_1_method_12_code
def yX5_coverSize : MethodName := ⟨RX5, "coverSize", "(I)I"⟩
abbrev cX5_idleMinutes : ByteArray := prog_1_method_13_code
def yX5_idleMinutes : MethodName := ⟨RX5, "idleMinutes", "(I)I"⟩
abbrev cX5_leaveCoat : ByteArray := prog_1_method_14_code
def yX5_leaveCoat : MethodName := ⟨RX5, "leaveCoat", "(II)I"⟩
abbrev cX5_takeCoat : ByteArray := prog_1_method_15_code
def yX5_takeCoat : MethodName := ⟨RX5, "takeCoat", "(I)I"⟩
abbrev cX5_hasCoatLeft : ByteArray := prog_1_method_16_code
def yX5_hasCoatLeft : MethodName := ⟨RX5, "hasCoatLeft", "(I)Z"⟩
abbrev cX5_coatChair : ByteArray := prog_1_method_17_code
def yX5_coatChair : MethodName := ⟨RX5, "coatChair", "(I)I"⟩
abbrev cX5_coatCount : ByteArray := prog_1_method_18_code
def yX5_coatCount : MethodName := ⟨RX5, "coatCount", "(I)I"⟩
abbrev cX5_coatOwner : ByteArray := prog_1_method_19_code
def yX5_coatOwner : MethodName := ⟨RX5, "coatOwner", "(II)I"⟩
abbrev cX5_nextClaimant : ByteArray := prog_1_method_20_code
def yX5_nextClaimant : MethodName := ⟨RX5, "nextClaimant", "(I)I"⟩
abbrev cX5_nextClaimantByTime : ByteArray := prog_1_method_21_code
def yX5_nextClaimantByTime : MethodName := ⟨RX5, "nextClaimantByTime", "(I)I"⟩
abbrev cX5_contest : ByteArray := prog_1_method_22_code
def yX5_contest : MethodName := ⟨RX5, "contest", "(II)Z"⟩
abbrev cX5_wouldWin : ByteArray := prog_1_method_23_code
def yX5_wouldWin : MethodName := ⟨RX5, "wouldWin", "(II)Z"⟩
abbrev cX5_pass : ByteArray := prog_1_method_24_code
def yX5_pass : MethodName := ⟨RX5, "pass", "(I)I"⟩
abbrev cX5_sweep : ByteArray := prog_1_method_25_code
def yX5_sweep : MethodName := ⟨RX5, "sweep", "(I)I"⟩
abbrev cX5_now : ByteArray := prog_1_method_26_code
def yX5_now : MethodName := ⟨RX5, "now", "()I"⟩
abbrev cX5_idlestGuest : ByteArray := prog_1_method_27_code
def yX5_idlestGuest : MethodName := ⟨RX5, "idlestGuest", "()I"⟩
abbrev cX5_isCovered : ByteArray := prog_1_method_28_code
def yX5_isCovered : MethodName := ⟨RX5, "isCovered", "(I)Z"⟩
abbrev cX5_covererOf : ByteArray := prog_1_method_29_code
def yX5_covererOf : MethodName := ⟨RX5, "covererOf", "(I)I"⟩
abbrev cX5_coveredMask : ByteArray := prog_1_method_30_code
def yX5_coveredMask : MethodName := ⟨RX5, "coveredMask", "()J"⟩
abbrev cX5_coveredCount : ByteArray := prog_1_method_31_code
def yX5_coveredCount : MethodName := ⟨RX5, "coveredCount", "()I"⟩
abbrev cX5_longestFreeRun : ByteArray := prog_1_method_33_code
def yX5_longestFreeRun : MethodName := ⟨RX5, "longestFreeRun", "(I)I"⟩
abbrev cX5_longestFreeRunByMask : ByteArray := prog_1_method_34_code
def yX5_longestFreeRunByMask : MethodName := ⟨RX5, "longestFreeRunByMask", "(I)I"⟩
abbrev cX5_guestAtRank : ByteArray := prog_1_method_35_code
def yX5_guestAtRank : MethodName := ⟨RX5, "guestAtRank", "(I)I"⟩
abbrev cX5_sweptTotal : ByteArray := prog_1_method_36_code
def yX5_sweptTotal : MethodName := ⟨RX5, "sweptTotal", "()I"⟩
abbrev cX5_lapsedTotal : ByteArray := prog_1_method_37_code
def yX5_lapsedTotal : MethodName := ⟨RX5, "lapsedTotal", "()I"⟩
abbrev cX5_offersTaken : ByteArray := prog_1_method_38_code
def yX5_offersTaken : MethodName := ⟨RX5, "offersTaken", "()I"⟩
abbrev cX5_contestsWon : ByteArray := prog_1_method_39_code
def yX5_contestsWon : MethodName := ⟨RX5, "contestsWon", "()I"⟩
abbrev cX5_append : ByteArray := prog_1_method_40_code
def yX5_append : MethodName := ⟨RX5, "append", "(C)I"⟩
abbrev cX5_run : ByteArray := prog_1_method_41_code
def yX5_run : MethodName := ⟨RX5, "run", "()I"⟩
abbrev cX5_errorPosition : ByteArray := prog_1_method_42_code
def yX5_errorPosition : MethodName := ⟨RX5, "errorPosition", "()I"⟩
abbrev cX5_failedCommand : ByteArray := prog_1_method_43_code
def yX5_failedCommand : MethodName := ⟨RX5, "failedCommand", "()I"⟩
abbrev cX5_failedException : ByteArray := prog_1_method_44_code
def yX5_failedException : MethodName := ⟨RX5, "failedException", "()I"⟩
abbrev cX5_describeRow : ByteArray := prog_1_method_45_code
def yX5_describeRow : MethodName := ⟨RX5, "describeRow", "(I)I"⟩
abbrev cX5_lineAt : ByteArray := prog_1_method_46_code
def yX5_lineAt : MethodName := ⟨RX5, "lineAt", "(I)C"⟩
abbrev cX5_meanCover : ByteArray := prog_1_method_47_code
def yX5_meanCover : MethodName := ⟨RX5, "meanCover", "()D"⟩
abbrev cX5_coveredShare : ByteArray := prog_1_method_48_code
def yX5_coveredShare : MethodName := ⟨RX5, "coveredShare", "()F"⟩
abbrev cX5_undo : ByteArray := prog_1_method_50_code
def yX5_undo : MethodName := ⟨RX5, "undo", "()I"⟩
abbrev cX5_save : ByteArray := prog_1_method_51_code
def yX5_save : MethodName := ⟨RX5, "save", "()I"⟩
abbrev cX5_restore : ByteArray := prog_1_method_52_code
def yX5_restore : MethodName := ⟨RX5, "restore", "()I"⟩
abbrev cX5_requireGuest : ByteArray := prog_1_method_53_code
def yX5_requireGuest : MethodName := ⟨RX5, "requireGuest", "(I)V"⟩
abbrev cX5_requirePlacedHat : ByteArray := prog_1_method_54_code
def yX5_requirePlacedHat : MethodName := ⟨RX5, "requirePlacedHat", "(I)V"⟩
abbrev cX5_requireLeftCoat : ByteArray := prog_1_method_55_code
def yX5_requireLeftCoat : MethodName := ⟨RX5, "requireLeftCoat", "(I)V"⟩
abbrev cX5_requireChair : ByteArray := prog_1_method_56_code
def yX5_requireChair : MethodName := ⟨RX5, "requireChair", "(I)V"⟩
abbrev cX5_requireRow : ByteArray := prog_1_method_57_code
def yX5_requireRow : MethodName := ⟨RX5, "requireRow", "(I)V"⟩
def RX6 : String := "HatReservationsModel"
def TX6 : u_T := fun k => match k with
  | _ => ("", "", "", false)
def tyX6 : Nat → FieldType := fun k => match k with
  | _ => .int
abbrev wsX60 : List Cond := u_ws RX6 TX6 0
theorem nmX6 : ∀ a, a < 0 → ∀ b, b < 0 → a ≠ b → (TX6 a).2.1 ≠ (TX6 b).2.1 := by decide +kernel
theorem tyX6_ok : ∀ k, k < 0 → parseFieldDescriptor (TX6 k).2.2.1 = some (tyX6 k) := by decide +kernel
def RJx145de : String := "java/io/Serializable"
def TJx145de : u_T := fun k => match k with
  | _ => ("", "", "", false)
def tyJx145de : Nat → FieldType := fun k => match k with
  | _ => .int
abbrev wsJx145de0 : List Cond := u_ws RJx145de TJx145de 0
theorem nmJx145de : ∀ a, a < 0 → ∀ b, b < 0 → a ≠ b → (TJx145de a).2.1 ≠ (TJx145de b).2.1 := by decide +kernel
theorem tyJx145de_ok : ∀ k, k < 0 → parseFieldDescriptor (TJx145de k).2.2.1 = some (tyJx145de k) := by decide +kernel
def RJ5 : String := "java/lang/AbstractStringBuilder"
def TJ5 : u_T := fun k => match k with
  | _ => ("", "", "", false)
def tyJ5 : Nat → FieldType := fun k => match k with
  | _ => .int
abbrev wsJ50 : List Cond := u_ws RJ5 TJ5 0
theorem nmJ5 : ∀ a, a < 0 → ∀ b, b < 0 → a ≠ b → (TJ5 a).2.1 ≠ (TJ5 b).2.1 := by decide +kernel
theorem tyJ5_ok : ∀ k, k < 0 → parseFieldDescriptor (TJ5 k).2.2.1 = some (tyJ5 k) := by decide +kernel
abbrev cJ5_init_d00df : ByteArray := prog_10_method_2_code
def yJ5_init_d00df : MethodName := ⟨RJ5, "<init>", "(I)V"⟩
abbrev cJ5_length_8abf5 : ByteArray := prog_10_method_6_code
def yJ5_length_8abf5 : MethodName := ⟨RJ5, "length", "()I"⟩
abbrev cJ5_ensureCapacityInternal_d00df : ByteArray := prog_10_method_9_code
def yJ5_ensureCapacityInternal_d00df : MethodName := ⟨RJ5, "ensureCapacityInternal", "(I)V"⟩
abbrev cJ5_newCapacity_0f7a4 : ByteArray := prog_10_method_10_code
def yJ5_newCapacity_0f7a4 : MethodName := ⟨RJ5, "newCapacity", "(I)I"⟩
abbrev cJ5_inflate_da8c8 : ByteArray := prog_10_method_11_code
def yJ5_inflate_da8c8 : MethodName := ⟨RJ5, "inflate", "()V"⟩
abbrev cJ5_append_cf1ce : ByteArray := prog_10_method_22_code
def yJ5_append_cf1ce : MethodName := ⟨RJ5, "append", "(Ljava/lang/String;)Ljava/lang/AbstractStringBuilder;"⟩
abbrev cJ5_appendNull_278bc : ByteArray := prog_10_method_26_code
def yJ5_appendNull_278bc : MethodName := ⟨RJ5, "appendNull", "()Ljava/lang/AbstractStringBuilder;"⟩
abbrev cJ5_append_c97b9 : ByteArray := prog_10_method_32_code
def yJ5_append_c97b9 : MethodName := ⟨RJ5, "append", "(I)Ljava/lang/AbstractStringBuilder;"⟩
abbrev cJ5_getValue_6d5f1 : ByteArray := prog_10_method_64_code
def yJ5_getValue_6d5f1 : MethodName := ⟨RJ5, "getValue", "()[B"⟩
abbrev cJ5_isLatin1_aae02 : ByteArray := prog_10_method_68_code
def yJ5_isLatin1_aae02 : MethodName := ⟨RJ5, "isLatin1", "()Z"⟩
abbrev cJ5_inflateIfNeededFor_a7421 : ByteArray := prog_10_method_71_code
def yJ5_inflateIfNeededFor_a7421 : MethodName := ⟨RJ5, "inflateIfNeededFor", "(Ljava/lang/String;)V"⟩
abbrev cJ5_putStringAt_47b60 : ByteArray := prog_10_method_73_code
def yJ5_putStringAt_47b60 : MethodName := ⟨RJ5, "putStringAt", "(ILjava/lang/String;)V"⟩
def RJx2cfe8 : String := "java/lang/Appendable"
def TJx2cfe8 : u_T := fun k => match k with
  | _ => ("", "", "", false)
def tyJx2cfe8 : Nat → FieldType := fun k => match k with
  | _ => .int
abbrev wsJx2cfe80 : List Cond := u_ws RJx2cfe8 TJx2cfe8 0
theorem nmJx2cfe8 : ∀ a, a < 0 → ∀ b, b < 0 → a ≠ b → (TJx2cfe8 a).2.1 ≠ (TJx2cfe8 b).2.1 := by decide +kernel
theorem tyJx2cfe8_ok : ∀ k, k < 0 → parseFieldDescriptor (TJx2cfe8 k).2.2.1 = some (tyJx2cfe8 k) := by decide +kernel
def RJx00060 : String := "java/lang/ArrayIndexOutOfBoundsException"
def TJx00060 : u_T := fun k => match k with
  | 0 => ("java/lang/Throwable", "backtrace", "Ljava/lang/Object;", false)
  | 1 => ("java/lang/Throwable", "detailMessage", "Ljava/lang/String;", false)
  | 2 => ("java/lang/Throwable", "cause", "Ljava/lang/Throwable;", false)
  | 3 => ("java/lang/Throwable", "stackTrace", "[Ljava/lang/StackTraceElement;", false)
  | 4 => ("java/lang/Throwable", "depth", "I", false)
  | _ => ("java/lang/Throwable", "suppressedExceptions", "Ljava/util/List;", false)
def tyJx00060 : Nat → FieldType := fun k => match k with
  | 0 => .object "java/lang/Object"
  | 1 => .object "java/lang/String"
  | 2 => .object "java/lang/Throwable"
  | 3 => .array (.object "java/lang/StackTraceElement")
  | 4 => .int
  | _ => .object "java/util/List"
abbrev wsJx000600 : List Cond := u_ws RJx00060 TJx00060 6
theorem nmJx00060 : ∀ a, a < 6 → ∀ b, b < 6 → a ≠ b → (TJx00060 a).2.1 ≠ (TJx00060 b).2.1 := by decide +kernel
theorem tyJx00060_ok : ∀ k, k < 6 → parseFieldDescriptor (TJx00060 k).2.2.1 = some (tyJx00060 k) := by decide +kernel
abbrev cJx00060_init_a7421 : ByteArray := prog_13_method_2_code
def yJx00060_init_a7421 : MethodName := ⟨RJx00060, "<init>", "(Ljava/lang/String;)V"⟩
def RJx9f9b0 : String := "java/lang/CharSequence"
def TJx9f9b0 : u_T := fun k => match k with
  | _ => ("", "", "", false)
def tyJx9f9b0 : Nat → FieldType := fun k => match k with
  | _ => .int
abbrev wsJx9f9b00 : List Cond := u_ws RJx9f9b0 TJx9f9b0 0
theorem nmJx9f9b0 : ∀ a, a < 0 → ∀ b, b < 0 → a ≠ b → (TJx9f9b0 a).2.1 ≠ (TJx9f9b0 b).2.1 := by decide +kernel
theorem tyJx9f9b0_ok : ∀ k, k < 0 → parseFieldDescriptor (TJx9f9b0 k).2.2.1 = some (tyJx9f9b0 k) := by decide +kernel
def RJx8e188 : String := "java/lang/Cloneable"
def TJx8e188 : u_T := fun k => match k with
  | _ => ("", "", "", false)
def tyJx8e188 : Nat → FieldType := fun k => match k with
  | _ => .int
abbrev wsJx8e1880 : List Cond := u_ws RJx8e188 TJx8e188 0
theorem nmJx8e188 : ∀ a, a < 0 → ∀ b, b < 0 → a ≠ b → (TJx8e188 a).2.1 ≠ (TJx8e188 b).2.1 := by decide +kernel
theorem tyJx8e188_ok : ∀ k, k < 0 → parseFieldDescriptor (TJx8e188 k).2.2.1 = some (tyJx8e188 k) := by decide +kernel
def RJxb160c : String := "java/lang/Comparable"
def TJxb160c : u_T := fun k => match k with
  | _ => ("", "", "", false)
def tyJxb160c : Nat → FieldType := fun k => match k with
  | _ => .int
abbrev wsJxb160c0 : List Cond := u_ws RJxb160c TJxb160c 0
theorem nmJxb160c : ∀ a, a < 0 → ∀ b, b < 0 → a ≠ b → (TJxb160c a).2.1 ≠ (TJxb160c b).2.1 := by decide +kernel
theorem tyJxb160c_ok : ∀ k, k < 0 → parseFieldDescriptor (TJxb160c k).2.2.1 = some (tyJxb160c k) := by decide +kernel
def RJxe99ae : String := "java/lang/Double"
def TJxe99ae : u_T := fun k => match k with
  | _ => ("", "", "", false)
def tyJxe99ae : Nat → FieldType := fun k => match k with
  | _ => .int
abbrev wsJxe99ae0 : List Cond := u_ws RJxe99ae TJxe99ae 0
theorem nmJxe99ae : ∀ a, a < 0 → ∀ b, b < 0 → a ≠ b → (TJxe99ae a).2.1 ≠ (TJxe99ae b).2.1 := by decide +kernel
theorem tyJxe99ae_ok : ∀ k, k < 0 → parseFieldDescriptor (TJxe99ae k).2.2.1 = some (tyJxe99ae k) := by decide +kernel
abbrev cJxe99ae_isNaN_b9ae7 : ByteArray := prog_17_method_6_code
def yJxe99ae_isNaN_b9ae7 : MethodName := ⟨RJxe99ae, "isNaN", "(D)Z"⟩
abbrev cJxe99ae_doubleToLongBits_ccdee : ByteArray := prog_17_method_23_code
def yJxe99ae_doubleToLongBits_ccdee : MethodName := ⟨RJxe99ae, "doubleToLongBits", "(D)J"⟩
def RJx29ce0 : String := "java/lang/Enum"
def TJx29ce0 : u_T := fun k => match k with
  | _ => ("", "", "", false)
def tyJx29ce0 : Nat → FieldType := fun k => match k with
  | _ => .int
abbrev wsJx29ce00 : List Cond := u_ws RJx29ce0 TJx29ce0 0
theorem nmJx29ce0 : ∀ a, a < 0 → ∀ b, b < 0 → a ≠ b → (TJx29ce0 a).2.1 ≠ (TJx29ce0 b).2.1 := by decide +kernel
theorem tyJx29ce0_ok : ∀ k, k < 0 → parseFieldDescriptor (TJx29ce0 k).2.2.1 = some (tyJx29ce0 k) := by decide +kernel
abbrev cJx29ce0_ordinal_8abf5 : ByteArray := prog_18_method_2_code
def yJx29ce0_ordinal_8abf5 : MethodName := ⟨RJx29ce0, "ordinal", "()I"⟩
def RJxf58ca : String := "java/lang/Float"
def TJxf58ca : u_T := fun k => match k with
  | _ => ("", "", "", false)
def tyJxf58ca : Nat → FieldType := fun k => match k with
  | _ => .int
abbrev wsJxf58ca0 : List Cond := u_ws RJxf58ca TJxf58ca 0
theorem nmJxf58ca : ∀ a, a < 0 → ∀ b, b < 0 → a ≠ b → (TJxf58ca a).2.1 ≠ (TJxf58ca b).2.1 := by decide +kernel
theorem tyJxf58ca_ok : ∀ k, k < 0 → parseFieldDescriptor (TJxf58ca k).2.2.1 = some (tyJxf58ca k) := by decide +kernel
abbrev cJxf58ca_isNaN_12338 : ByteArray := prog_20_method_6_code
def yJxf58ca_isNaN_12338 : MethodName := ⟨RJxf58ca, "isNaN", "(F)Z"⟩
abbrev cJxf58ca_floatToIntBits_5c35a : ByteArray := prog_20_method_24_code
def yJxf58ca_floatToIntBits_5c35a : MethodName := ⟨RJxf58ca, "floatToIntBits", "(F)I"⟩
def RJ6 : String := "java/lang/Integer"
def TJ6 : u_T := fun k => match k with
  | _ => ("", "", "", false)
def tyJ6 : Nat → FieldType := fun k => match k with
  | _ => .int
abbrev wsJ60 : List Cond := u_ws RJ6 TJ6 0
theorem nmJ6 : ∀ a, a < 0 → ∀ b, b < 0 → a ≠ b → (TJ6 a).2.1 ≠ (TJ6 b).2.1 := by decide +kernel
theorem tyJ6_ok : ∀ k, k < 0 → parseFieldDescriptor (TJ6 k).2.2.1 = some (tyJ6 k) := by decide +kernel
abbrev cJ6_getChars_ba4f3 : ByteArray := prog_24_method_12_code
def yJ6_getChars_ba4f3 : MethodName := ⟨RJ6, "getChars", "(II[B)I"⟩
abbrev cJ6_stringSize_0f7a4 : ByteArray := prog_24_method_13_code
def yJ6_stringSize_0f7a4 : MethodName := ⟨RJ6, "stringSize", "(I)I"⟩
def RJ13 : String := "java/lang/Long"
def TJ13 : u_T := fun k => match k with
  | _ => ("", "", "", false)
def tyJ13 : Nat → FieldType := fun k => match k with
  | _ => .int
abbrev wsJ130 : List Cond := u_ws RJ13 TJ13 0
theorem nmJ13 : ∀ a, a < 0 → ∀ b, b < 0 → a ≠ b → (TJ13 a).2.1 ≠ (TJ13 b).2.1 := by decide +kernel
theorem tyJ13_ok : ∀ k, k < 0 → parseFieldDescriptor (TJ13 k).2.2.1 = some (tyJ13 k) := by decide +kernel
abbrev cJ13_bitCount_95d88 : ByteArray := prog_25_method_50_code
def yJ13_bitCount_95d88 : MethodName := ⟨RJ13, "bitCount", "(J)I"⟩
def RJ9 : String := "java/lang/Math"
def TJ9 : u_T := fun k => match k with
  | _ => ("", "", "", false)
def tyJ9 : Nat → FieldType := fun k => match k with
  | _ => .int
abbrev wsJ90 : List Cond := u_ws RJ9 TJ9 0
theorem nmJ9 : ∀ a, a < 0 → ∀ b, b < 0 → a ≠ b → (TJ9 a).2.1 ≠ (TJ9 b).2.1 := by decide +kernel
theorem tyJ9_ok : ∀ k, k < 0 → parseFieldDescriptor (TJ9 k).2.2.1 = some (tyJ9 k) := by decide +kernel
abbrev cJ9_max_7cf53 : ByteArray := prog_26_method_65_code
def yJ9_max_7cf53 : MethodName := ⟨RJ9, "max", "(II)I"⟩
abbrev cJ9_min_7cf53 : ByteArray := prog_26_method_69_code
def yJ9_min_7cf53 : MethodName := ⟨RJ9, "min", "(II)I"⟩
def RJxd2413 : String := "java/lang/Number"
def TJxd2413 : u_T := fun k => match k with
  | _ => ("", "", "", false)
def tyJxd2413 : Nat → FieldType := fun k => match k with
  | _ => .int
abbrev wsJxd24130 : List Cond := u_ws RJxd2413 TJxd2413 0
theorem nmJxd2413 : ∀ a, a < 0 → ∀ b, b < 0 → a ≠ b → (TJxd2413 a).2.1 ≠ (TJxd2413 b).2.1 := by decide +kernel
theorem tyJxd2413_ok : ∀ k, k < 0 → parseFieldDescriptor (TJxd2413 k).2.2.1 = some (tyJxd2413 k) := by decide +kernel
def RJ0 : String := "java/lang/String"
def TJ0 : u_T := fun k => match k with
  | 0 => ("java/lang/String", "value", "[B", true)
  | 1 => ("java/lang/String", "coder", "B", true)
  | 2 => ("java/lang/String", "hash", "I", false)
  | _ => ("java/lang/String", "hashIsZero", "Z", false)
def tyJ0 : Nat → FieldType := fun k => match k with
  | 0 => .array .byte
  | 1 => .byte
  | 2 => .int
  | _ => .boolean
abbrev wsJ00 : List Cond := u_ws RJ0 TJ0 4
theorem nmJ0 : ∀ a, a < 4 → ∀ b, b < 4 → a ≠ b → (TJ0 a).2.1 ≠ (TJ0 b).2.1 := by decide +kernel
theorem tyJ0_ok : ∀ k, k < 4 → parseFieldDescriptor (TJ0 k).2.2.1 = some (tyJ0 k) := by decide +kernel
abbrev cJ0_init_81219 : ByteArray := prog_29_method_53_code
def yJ0_init_81219 : MethodName := ⟨RJ0, "<init>", "(Ljava/lang/StringBuilder;)V"⟩
abbrev cJ0_length_8abf5 : ByteArray := prog_29_method_54_code
def yJ0_length_8abf5 : MethodName := ⟨RJ0, "length", "()I"⟩
abbrev cJ0_charAt_5068e : ByteArray := prog_29_method_56_code
def yJ0_charAt_5068e : MethodName := ⟨RJ0, "charAt", "(I)C"⟩
abbrev cJ0_getBytes_840e7 : ByteArray := prog_29_method_147_code
def yJ0_getBytes_840e7 : MethodName := ⟨RJ0, "getBytes", "([BIB)V"⟩
abbrev cJ0_init_db425 : ByteArray := prog_29_method_150_code
def yJ0_init_db425 : MethodName := ⟨RJ0, "<init>", "(Ljava/lang/AbstractStringBuilder;Ljava/lang/Void;)V"⟩
abbrev cJ0_coder_7d493 : ByteArray := prog_29_method_152_code
def yJ0_coder_7d493 : MethodName := ⟨RJ0, "coder", "()B"⟩
abbrev cJ0_isLatin1_aae02 : ByteArray := prog_29_method_154_code
def yJ0_isLatin1_aae02 : MethodName := ⟨RJ0, "isLatin1", "()Z"⟩
abbrev cJ0_checkIndex_df160 : ByteArray := prog_29_method_155_code
def yJ0_checkIndex_df160 : MethodName := ⟨RJ0, "checkIndex", "(II)V"⟩
abbrev cJ0_checkBoundsOffCount_cabcc : ByteArray := prog_29_method_157_code
def yJ0_checkBoundsOffCount_cabcc : MethodName := ⟨RJ0, "checkBoundsOffCount", "(III)I"⟩
abbrev cJ0_checkBoundsBeginEnd_23922 : ByteArray := prog_29_method_158_code
def yJ0_checkBoundsBeginEnd_23922 : MethodName := ⟨RJ0, "checkBoundsBeginEnd", "(III)V"⟩
def RJ4 : String := "java/lang/StringBuilder"
def TJ4 : u_T := fun k => match k with
  | 0 => ("java/lang/AbstractStringBuilder", "value", "[B", false)
  | 1 => ("java/lang/AbstractStringBuilder", "coder", "B", false)
  | 2 => ("java/lang/AbstractStringBuilder", "maybeLatin1", "Z", false)
  | _ => ("java/lang/AbstractStringBuilder", "count", "I", false)
def tyJ4 : Nat → FieldType := fun k => match k with
  | 0 => .array .byte
  | 1 => .byte
  | 2 => .boolean
  | _ => .int
abbrev wsJ40 : List Cond := u_ws RJ4 TJ4 4
theorem nmJ4 : ∀ a, a < 4 → ∀ b, b < 4 → a ≠ b → (TJ4 a).2.1 ≠ (TJ4 b).2.1 := by decide +kernel
theorem tyJ4_ok : ∀ k, k < 4 → parseFieldDescriptor (TJ4 k).2.2.1 = some (tyJ4 k) := by decide +kernel
abbrev cJ4_init_da8c8 : ByteArray := prog_30_method_1_code
def yJ4_init_da8c8 : MethodName := ⟨RJ4, "<init>", "()V"⟩
abbrev cJ4_append_15ec4 : ByteArray := prog_30_method_7_code
def yJ4_append_15ec4 : MethodName := ⟨RJ4, "append", "(Ljava/lang/String;)Ljava/lang/StringBuilder;"⟩
abbrev cJ4_append_bf812 : ByteArray := prog_30_method_15_code
def yJ4_append_bf812 : MethodName := ⟨RJ4, "append", "(I)Ljava/lang/StringBuilder;"⟩
abbrev cJ4_toString_0e30d : ByteArray := prog_30_method_42_code
def yJ4_toString_0e30d : MethodName := ⟨RJ4, "toString", "()Ljava/lang/String;"⟩
abbrev cJ4_length_8abf5 : ByteArray := prog_30_method_93_code
def yJ4_length_8abf5 : MethodName := ⟨RJ4, "length", "()I"⟩
def RJ1 : String := "java/lang/StringLatin1"
def TJ1 : u_T := fun k => match k with
  | _ => ("", "", "", false)
def tyJ1 : Nat → FieldType := fun k => match k with
  | _ => .int
abbrev wsJ10 : List Cond := u_ws RJ1 TJ1 0
theorem nmJ1 : ∀ a, a < 0 → ∀ b, b < 0 → a ≠ b → (TJ1 a).2.1 ≠ (TJ1 b).2.1 := by decide +kernel
theorem tyJ1_ok : ∀ k, k < 0 → parseFieldDescriptor (TJ1 k).2.2.1 = some (tyJ1 k) := by decide +kernel
abbrev cJ1_charAt_3b067 : ByteArray := prog_31_method_2_code
def yJ1_charAt_3b067 : MethodName := ⟨RJ1, "charAt", "([BI)C"⟩
abbrev cJ1_inflate_0e8fd : ByteArray := prog_31_method_50_code
def yJ1_inflate_0e8fd : MethodName := ⟨RJ1, "inflate", "([BI[BII)V"⟩
def RJ2 : String := "java/lang/StringUTF16"
def TJ2 : u_T := fun k => match k with
  | _ => ("", "", "", false)
def tyJ2 : Nat → FieldType := fun k => match k with
  | _ => .int
abbrev wsJ20 : List Cond := u_ws RJ2 TJ2 0
theorem nmJ2 : ∀ a, a < 0 → ∀ b, b < 0 → a ≠ b → (TJ2 a).2.1 ≠ (TJ2 b).2.1 := by decide +kernel
theorem tyJ2_ok : ∀ k, k < 0 → parseFieldDescriptor (TJ2 k).2.2.1 = some (tyJ2 k) := by decide +kernel
abbrev cJ2_newBytesFor_77867 : ByteArray := prog_32_method_2_code
def yJ2_newBytesFor_77867 : MethodName := ⟨RJ2, "newBytesFor", "(I)[B"⟩
abbrev cJ2_newBytesLength_0f7a4 : ByteArray := prog_32_method_3_code
def yJ2_newBytesLength_0f7a4 : MethodName := ⟨RJ2, "newBytesLength", "(I)I"⟩
abbrev cJ2_putChar_b72d1 : ByteArray := prog_32_method_4_code
def yJ2_putChar_b72d1 : MethodName := ⟨RJ2, "putChar", "([BII)V"⟩
abbrev cJ2_getChar_3b067 : ByteArray := prog_32_method_5_code
def yJ2_getChar_3b067 : MethodName := ⟨RJ2, "getChar", "([BI)C"⟩
abbrev cJ2_length_9d52b : ByteArray := prog_32_method_6_code
def yJ2_length_9d52b : MethodName := ⟨RJ2, "length", "([B)I"⟩
abbrev cJ2_coderFromArrayLen_85cad : ByteArray := prog_32_method_15_code
def yJ2_coderFromArrayLen_85cad : MethodName := ⟨RJ2, "coderFromArrayLen", "([BI)B"⟩
abbrev cJ2_compress_39247 : ByteArray := prog_32_method_17_code
def yJ2_compress_39247 : MethodName := ⟨RJ2, "compress", "([BII)[B"⟩
abbrev cJ2_compress_5af95 : ByteArray := prog_32_method_22_code
def yJ2_compress_5af95 : MethodName := ⟨RJ2, "compress", "([BI[BII)I"⟩
abbrev cJ2_getChars_46870 : ByteArray := prog_32_method_77_code
def yJ2_getChars_46870 : MethodName := ⟨RJ2, "getChars", "(III[B)I"⟩
abbrev cJ2_putCharsAt_cd4e5 : ByteArray := prog_32_method_81_code
def yJ2_putCharsAt_cd4e5 : MethodName := ⟨RJ2, "putCharsAt", "([BICCCC)I"⟩
abbrev cJ2_charAt_3b067 : ByteArray := prog_32_method_83_code
def yJ2_charAt_3b067 : MethodName := ⟨RJ2, "charAt", "([BI)C"⟩
abbrev cJ2_inflate_0e8fd : ByteArray := prog_32_method_86_code
def yJ2_inflate_0e8fd : MethodName := ⟨RJ2, "inflate", "([BI[BII)V"⟩
abbrev cJ2_getChars_ba4f3 : ByteArray := prog_32_method_89_code
def yJ2_getChars_ba4f3 : MethodName := ⟨RJ2, "getChars", "(II[B)I"⟩
abbrev cJ2_checkIndex_2214a : ByteArray := prog_32_method_91_code
def yJ2_checkIndex_2214a : MethodName := ⟨RJ2, "checkIndex", "(I[B)V"⟩
abbrev cJ2_checkBoundsBeginEnd_d044e : ByteArray := prog_32_method_93_code
def yJ2_checkBoundsBeginEnd_d044e : MethodName := ⟨RJ2, "checkBoundsBeginEnd", "(II[B)V"⟩
abbrev cJ2_checkBoundsOffCount_d044e : ByteArray := prog_32_method_94_code
def yJ2_checkBoundsOffCount_d044e : MethodName := ⟨RJ2, "checkBoundsOffCount", "(II[B)V"⟩
def RJ10 : String := "java/lang/System"
def TJ10 : u_T := fun k => match k with
  | _ => ("", "", "", false)
def tyJ10 : Nat → FieldType := fun k => match k with
  | _ => .int
abbrev wsJ100 : List Cond := u_ws RJ10 TJ10 0
theorem nmJ10 : ∀ a, a < 0 → ∀ b, b < 0 → a ≠ b → (TJ10 a).2.1 ≠ (TJ10 b).2.1 := by decide +kernel
theorem tyJ10_ok : ∀ k, k < 0 → parseFieldDescriptor (TJ10 k).2.2.1 = some (tyJ10 k) := by decide +kernel
def RJxfd54e : String := "java/lang/constant/Constable"
def TJxfd54e : u_T := fun k => match k with
  | _ => ("", "", "", false)
def tyJxfd54e : Nat → FieldType := fun k => match k with
  | _ => .int
abbrev wsJxfd54e0 : List Cond := u_ws RJxfd54e TJxfd54e 0
theorem nmJxfd54e : ∀ a, a < 0 → ∀ b, b < 0 → a ≠ b → (TJxfd54e a).2.1 ≠ (TJxfd54e b).2.1 := by decide +kernel
theorem tyJxfd54e_ok : ∀ k, k < 0 → parseFieldDescriptor (TJxfd54e k).2.2.1 = some (tyJxfd54e k) := by decide +kernel
def RJx3cf43 : String := "java/lang/constant/ConstantDesc"
def TJx3cf43 : u_T := fun k => match k with
  | _ => ("", "", "", false)
def tyJx3cf43 : Nat → FieldType := fun k => match k with
  | _ => .int
abbrev wsJx3cf430 : List Cond := u_ws RJx3cf43 TJx3cf43 0
theorem nmJx3cf43 : ∀ a, a < 0 → ∀ b, b < 0 → a ≠ b → (TJx3cf43 a).2.1 ≠ (TJx3cf43 b).2.1 := by decide +kernel
theorem tyJx3cf43_ok : ∀ k, k < 0 → parseFieldDescriptor (TJx3cf43 k).2.2.1 = some (tyJx3cf43 k) := by decide +kernel
def RJ7 : String := "java/util/Arrays"
def TJ7 : u_T := fun k => match k with
  | _ => ("", "", "", false)
def tyJ7 : Nat → FieldType := fun k => match k with
  | _ => .int
abbrev wsJ70 : List Cond := u_ws RJ7 TJ7 0
theorem nmJ7 : ∀ a, a < 0 → ∀ b, b < 0 → a ≠ b → (TJ7 a).2.1 ≠ (TJ7 b).2.1 := by decide +kernel
theorem tyJ7_ok : ∀ k, k < 0 → parseFieldDescriptor (TJ7 k).2.2.1 = some (tyJ7 k) := by decide +kernel
abbrev cJ7_copyOf_9075b : ByteArray := prog_38_method_121_code
def yJ7_copyOf_9075b : MethodName := ⟨RJ7, "copyOf", "([BI)[B"⟩
abbrev cJ7_checkLength_df160 : ByteArray := prog_38_method_131_code
def yJ7_checkLength_df160 : MethodName := ⟨RJ7, "checkLength", "(II)V"⟩
abbrev cJ7_copyOfRange_39247 : ByteArray := prog_38_method_132_code
def yJ7_copyOfRange_39247 : MethodName := ⟨RJ7, "copyOfRange", "([BII)[B"⟩
abbrev cJ7_copyOfRangeByte_39247 : ByteArray := prog_38_method_133_code
def yJ7_copyOfRangeByte_39247 : MethodName := ⟨RJ7, "copyOfRangeByte", "([BII)[B"⟩
def RJ8 : String := "jdk/internal/util/ArraysSupport"
def TJ8 : u_T := fun k => match k with
  | _ => ("", "", "", false)
def tyJ8 : Nat → FieldType := fun k => match k with
  | _ => .int
abbrev wsJ80 : List Cond := u_ws RJ8 TJ8 0
theorem nmJ8 : ∀ a, a < 0 → ∀ b, b < 0 → a ≠ b → (TJ8 a).2.1 ≠ (TJ8 b).2.1 := by decide +kernel
theorem tyJ8_ok : ∀ k, k < 0 → parseFieldDescriptor (TJ8 k).2.2.1 = some (tyJ8 k) := by decide +kernel
abbrev cJ8_newLength_cabcc : ByteArray := prog_40_method_27_code
def yJ8_newLength_cabcc : MethodName := ⟨RJ8, "newLength", "(III)I"⟩
abbrev cJ8_hugeLength_7cf53 : ByteArray := prog_40_method_28_code
def yJ8_hugeLength_7cf53 : MethodName := ⟨RJ8, "hugeLength", "(II)I"⟩
def RJ3 : String := "jdk/internal/util/Preconditions"
def TJ3 : u_T := fun k => match k with
  | _ => ("", "", "", false)
def tyJ3 : Nat → FieldType := fun k => match k with
  | _ => .int
abbrev wsJ30 : List Cond := u_ws RJ3 TJ3 0
theorem nmJ3 : ∀ a, a < 0 → ∀ b, b < 0 → a ≠ b → (TJ3 a).2.1 ≠ (TJ3 b).2.1 := by decide +kernel
theorem tyJ3_ok : ∀ k, k < 0 → parseFieldDescriptor (TJ3 k).2.2.1 = some (tyJ3 k) := by decide +kernel
abbrev cJ3_checkIndex_8e157 : ByteArray := prog_41_method_11_code
def yJ3_checkIndex_8e157 : MethodName := ⟨RJ3, "checkIndex", "(IILjava/util/function/BiFunction;)I"⟩
abbrev cJ3_checkFromToIndex_8c36e : ByteArray := prog_41_method_12_code
def yJ3_checkFromToIndex_8c36e : MethodName := ⟨RJ3, "checkFromToIndex", "(IIILjava/util/function/BiFunction;)I"⟩
abbrev cJ3_checkFromIndexSize_8c36e : ByteArray := prog_41_method_13_code
def yJ3_checkFromIndexSize_8c36e : MethodName := ⟨RJ3, "checkFromIndexSize", "(IIILjava/util/function/BiFunction;)I"⟩
def wsJx29ce0_ordinal_8abf5 : List Cond := .code yJx29ce0_ordinal_8abf5 cJx29ce0_ordinal_8abf5 1 (some .int) :: ([.fieldLink RJx29ce0 7 "java/lang/Enum" "ordinal" "I"])
def wsX3_refusalOfGuest : List Cond := .code yX3_refusalOfGuest cX3_refusalOfGuest 3 (some .int) :: ([.fieldLink RX3 41 "HatReservations$Hall" "guests" "I"] ++ wsX30)
def wsX3_hasGuest : List Cond := .code yX3_hasGuest cX3_hasGuest 2 (some .boolean) :: ([.fieldLink RX3 41 "HatReservations$Hall" "guests" "I"] ++ wsX30)
def wsX3_hasChair : List Cond := .code yX3_hasChair cX3_hasChair 1 (some .boolean) :: ([])
def wsX3_hatIsPlaced : List Cond := .code yX3_hatIsPlaced cX3_hatIsPlaced 2 (some .boolean) :: ([.fieldLink RX3 18 "HatReservations$Hall" "hatChairs" "[I"] ++ wsX30 ++ (vx_atM "java/lang/ArrayIndexOutOfBoundsException" ["java/lang/IndexOutOfBoundsException", "java/lang/RuntimeException", "java/lang/Exception"]).filter goodWord)
def wsX3_covererAt : List Cond := .code yX3_covererAt cX3_covererAt 3 (some .int) :: ([.fieldLink RX3 24 "HatReservations$Hall" "covers" "[J"] ++ wsX30 ++ (vx_atM "java/lang/ArrayIndexOutOfBoundsException" ["java/lang/IndexOutOfBoundsException", "java/lang/RuntimeException", "java/lang/Exception"]).filter goodWord)
def wsX3_refusalOfHat : List Cond := .code yX3_refusalOfHat cX3_refusalOfHat 3 (some .int) :: ([.methodLink RX3 65 yX3_hasGuest, .instanceMethod yX3_hasGuest, .selects RX3 yX3_hasGuest yX3_hasGuest, .initialized RX3, .code yX3_hasGuest cX3_hasGuest 2 (some .boolean), .fieldLink RX3 41 "HatReservations$Hall" "guests" "I", .methodLink RX3 69 yX3_hasChair, .static yX3_hasChair, .code yX3_hasChair cX3_hasChair 1 (some .boolean), .methodLink RX3 72 yX3_hatIsPlaced, .instanceMethod yX3_hatIsPlaced, .selects RX3 yX3_hatIsPlaced yX3_hatIsPlaced, .code yX3_hatIsPlaced cX3_hatIsPlaced 2 (some .boolean), .fieldLink RX3 18 "HatReservations$Hall" "hatChairs" "[I", .methodLink RX3 75 yX3_covererAt, .instanceMethod yX3_covererAt, .selects RX3 yX3_covererAt yX3_covererAt, .code yX3_covererAt cX3_covererAt 3 (some .int), .fieldLink RX3 24 "HatReservations$Hall" "covers" "[J"] ++ wsX30 ++ (vx_atM "java/lang/ArrayIndexOutOfBoundsException" ["java/lang/IndexOutOfBoundsException", "java/lang/RuntimeException", "java/lang/Exception"]).filter goodWord)
def wsX3_refusalWithoutHat : List Cond := .code yX3_refusalWithoutHat cX3_refusalWithoutHat 2 (some .int) :: ([.methodLink RX3 65 yX3_hasGuest, .instanceMethod yX3_hasGuest, .selects RX3 yX3_hasGuest yX3_hasGuest, .initialized RX3, .code yX3_hasGuest cX3_hasGuest 2 (some .boolean), .fieldLink RX3 41 "HatReservations$Hall" "guests" "I", .methodLink RX3 72 yX3_hatIsPlaced, .instanceMethod yX3_hatIsPlaced, .selects RX3 yX3_hatIsPlaced yX3_hatIsPlaced, .code yX3_hatIsPlaced cX3_hatIsPlaced 2 (some .boolean), .fieldLink RX3 18 "HatReservations$Hall" "hatChairs" "[I"] ++ wsX30 ++ (vx_atM "java/lang/ArrayIndexOutOfBoundsException" ["java/lang/IndexOutOfBoundsException", "java/lang/RuntimeException", "java/lang/Exception"]).filter goodWord)
def wsX3_coatsOn : List Cond := .code yX3_coatsOn cX3_coatsOn 4 (some .int) :: ([.fieldLink RX3 28 "HatReservations$Hall" "coatChairs" "[I"] ++ wsX30 ++ (vx_atM "java/lang/ArrayIndexOutOfBoundsException" ["java/lang/IndexOutOfBoundsException", "java/lang/RuntimeException", "java/lang/Exception"]).filter goodWord)
def wsX3_refusalOfCoat : List Cond := .code yX3_refusalOfCoat cX3_refusalOfCoat 5 (some .int) :: ([.fieldLink RX3 28 "HatReservations$Hall" "coatChairs" "[I", .methodLink RX3 65 yX3_hasGuest, .instanceMethod yX3_hasGuest, .selects RX3 yX3_hasGuest yX3_hasGuest, .initialized RX3, .code yX3_hasGuest cX3_hasGuest 2 (some .boolean), .fieldLink RX3 41 "HatReservations$Hall" "guests" "I", .methodLink RX3 69 yX3_hasChair, .static yX3_hasChair, .code yX3_hasChair cX3_hasChair 1 (some .boolean), .methodLink RX3 75 yX3_covererAt, .instanceMethod yX3_covererAt, .selects RX3 yX3_covererAt yX3_covererAt, .code yX3_covererAt cX3_covererAt 3 (some .int), .fieldLink RX3 24 "HatReservations$Hall" "covers" "[J", .methodLink RX3 79 yX3_coatsOn, .instanceMethod yX3_coatsOn, .selects RX3 yX3_coatsOn yX3_coatsOn, .code yX3_coatsOn cX3_coatsOn 4 (some .int)] ++ wsX30 ++ (vx_atM "java/lang/ArrayIndexOutOfBoundsException" ["java/lang/IndexOutOfBoundsException", "java/lang/RuntimeException", "java/lang/Exception"]).filter goodWord)
def wsX3_refusalWithoutCoat : List Cond := .code yX3_refusalWithoutCoat cX3_refusalWithoutCoat 2 (some .int) :: ([.fieldLink RX3 28 "HatReservations$Hall" "coatChairs" "[I", .methodLink RX3 65 yX3_hasGuest, .instanceMethod yX3_hasGuest, .selects RX3 yX3_hasGuest yX3_hasGuest, .initialized RX3, .code yX3_hasGuest cX3_hasGuest 2 (some .boolean), .fieldLink RX3 41 "HatReservations$Hall" "guests" "I"] ++ wsX30 ++ (vx_atM "java/lang/ArrayIndexOutOfBoundsException" ["java/lang/IndexOutOfBoundsException", "java/lang/RuntimeException", "java/lang/Exception"]).filter goodWord)
def wsX3_refusalOfContest : List Cond := .code yX3_refusalOfContest cX3_refusalOfContest 3 (some .int) :: ([.methodLink RX3 65 yX3_hasGuest, .instanceMethod yX3_hasGuest, .selects RX3 yX3_hasGuest yX3_hasGuest, .initialized RX3, .code yX3_hasGuest cX3_hasGuest 2 (some .boolean), .fieldLink RX3 41 "HatReservations$Hall" "guests" "I", .methodLink RX3 69 yX3_hasChair, .static yX3_hasChair, .code yX3_hasChair cX3_hasChair 1 (some .boolean), .methodLink RX3 75 yX3_covererAt, .instanceMethod yX3_covererAt, .selects RX3 yX3_covererAt yX3_covererAt, .code yX3_covererAt cX3_covererAt 3 (some .int), .fieldLink RX3 24 "HatReservations$Hall" "covers" "[J", .methodLink RX3 72 yX3_hatIsPlaced, .instanceMethod yX3_hatIsPlaced, .selects RX3 yX3_hatIsPlaced yX3_hatIsPlaced, .code yX3_hatIsPlaced cX3_hatIsPlaced 2 (some .boolean), .fieldLink RX3 18 "HatReservations$Hall" "hatChairs" "[I"] ++ wsX30 ++ (vx_atM "java/lang/ArrayIndexOutOfBoundsException" ["java/lang/IndexOutOfBoundsException", "java/lang/RuntimeException", "java/lang/Exception"]).filter goodWord)
def wsX3_refusalOfPass : List Cond := .code yX3_refusalOfPass cX3_refusalOfPass 2 (some .int) :: ([])
def wsX3_refusalOfSweep : List Cond := .code yX3_refusalOfSweep cX3_refusalOfSweep 2 (some .int) :: ([])
def wsX3_refusalOfFeather : List Cond := .code yX3_refusalOfFeather cX3_refusalOfFeather 2 (some .int) :: ([.fieldLink RX3 9 "HatReservations$Hall" "feathers" "[I", .methodLink RX3 65 yX3_hasGuest, .instanceMethod yX3_hasGuest, .selects RX3 yX3_hasGuest yX3_hasGuest, .initialized RX3, .code yX3_hasGuest cX3_hasGuest 2 (some .boolean), .fieldLink RX3 41 "HatReservations$Hall" "guests" "I"] ++ wsX30 ++ (vx_atM "java/lang/ArrayIndexOutOfBoundsException" ["java/lang/IndexOutOfBoundsException", "java/lang/RuntimeException", "java/lang/Exception"]).filter goodWord)
def wsX1_refusalIn_r1 : List Cond := [Cond.fieldLink RX1 68 "HatReservations$1" "$SwitchMap$HatReservations$Command" "[I", Cond.methodLink RX1 74 ⟨"HatReservations$Command", "ordinal", "()I"⟩, Cond.sameMethod "HatReservations$Command" "java/lang/Enum" "ordinal" "()I", Cond.selects RX1 ⟨"HatReservations$Command", "ordinal", "()I"⟩ yJx29ce0_ordinal_8abf5, Cond.instanceMethod yJx29ce0_ordinal_8abf5, Cond.initialized RJx29ce0, Cond.code yJx29ce0_ordinal_8abf5 cJx29ce0_ordinal_8abf5 1 (some .int), Cond.fieldLink RJx29ce0 7 "java/lang/Enum" "ordinal" "I", Cond.methodLink RX1 78 yX3_refusalOfGuest, Cond.instanceMethod yX3_refusalOfGuest, Cond.selects RX3 yX3_refusalOfGuest yX3_refusalOfGuest, Cond.initialized RX3, Cond.code yX3_refusalOfGuest cX3_refusalOfGuest 3 (some .int), Cond.fieldLink RX3 41 "HatReservations$Hall" "guests" "I", Cond.methodLink RX1 84 yX3_refusalOfHat, Cond.instanceMethod yX3_refusalOfHat, Cond.selects RX3 yX3_refusalOfHat yX3_refusalOfHat, Cond.code yX3_refusalOfHat cX3_refusalOfHat 3 (some .int), Cond.methodLink RX3 65 yX3_hasGuest, Cond.instanceMethod yX3_hasGuest, Cond.selects RX3 yX3_hasGuest yX3_hasGuest, Cond.code yX3_hasGuest cX3_hasGuest 2 (some .boolean), Cond.methodLink RX3 69 yX3_hasChair, Cond.static yX3_hasChair]
def wsX1_refusalIn_r2 : List Cond := [Cond.code yX3_hasChair cX3_hasChair 1 (some .boolean), Cond.methodLink RX3 72 yX3_hatIsPlaced, Cond.instanceMethod yX3_hatIsPlaced, Cond.selects RX3 yX3_hatIsPlaced yX3_hatIsPlaced, Cond.code yX3_hatIsPlaced cX3_hatIsPlaced 2 (some .boolean), Cond.fieldLink RX3 18 "HatReservations$Hall" "hatChairs" "[I", Cond.methodLink RX3 75 yX3_covererAt, Cond.instanceMethod yX3_covererAt, Cond.selects RX3 yX3_covererAt yX3_covererAt, Cond.code yX3_covererAt cX3_covererAt 3 (some .int), Cond.fieldLink RX3 24 "HatReservations$Hall" "covers" "[J", Cond.methodLink RX1 87 yX3_refusalWithoutHat, Cond.instanceMethod yX3_refusalWithoutHat, Cond.selects RX3 yX3_refusalWithoutHat yX3_refusalWithoutHat, Cond.code yX3_refusalWithoutHat cX3_refusalWithoutHat 2 (some .int), Cond.methodLink RX1 91 yX3_refusalOfCoat, Cond.instanceMethod yX3_refusalOfCoat, Cond.selects RX3 yX3_refusalOfCoat yX3_refusalOfCoat, Cond.code yX3_refusalOfCoat cX3_refusalOfCoat 5 (some .int), Cond.fieldLink RX3 28 "HatReservations$Hall" "coatChairs" "[I", Cond.methodLink RX3 79 yX3_coatsOn, Cond.instanceMethod yX3_coatsOn, Cond.selects RX3 yX3_coatsOn yX3_coatsOn, Cond.code yX3_coatsOn cX3_coatsOn 4 (some .int)]
def wsX1_refusalIn_r3 : List Cond := [Cond.methodLink RX1 94 yX3_refusalWithoutCoat, Cond.instanceMethod yX3_refusalWithoutCoat, Cond.selects RX3 yX3_refusalWithoutCoat yX3_refusalWithoutCoat, Cond.code yX3_refusalWithoutCoat cX3_refusalWithoutCoat 2 (some .int), Cond.methodLink RX1 97 yX3_refusalOfContest, Cond.instanceMethod yX3_refusalOfContest, Cond.selects RX3 yX3_refusalOfContest yX3_refusalOfContest, Cond.code yX3_refusalOfContest cX3_refusalOfContest 3 (some .int), Cond.methodLink RX1 100 yX3_refusalOfPass, Cond.instanceMethod yX3_refusalOfPass, Cond.selects RX3 yX3_refusalOfPass yX3_refusalOfPass, Cond.code yX3_refusalOfPass cX3_refusalOfPass 2 (some .int), Cond.methodLink RX1 103 yX3_refusalOfSweep, Cond.instanceMethod yX3_refusalOfSweep, Cond.selects RX3 yX3_refusalOfSweep yX3_refusalOfSweep, Cond.code yX3_refusalOfSweep cX3_refusalOfSweep 2 (some .int), Cond.methodLink RX1 106 yX3_refusalOfFeather, Cond.instanceMethod yX3_refusalOfFeather, Cond.selects RX3 yX3_refusalOfFeather yX3_refusalOfFeather, Cond.code yX3_refusalOfFeather cX3_refusalOfFeather 2 (some .int), Cond.fieldLink RX3 9 "HatReservations$Hall" "feathers" "[I"]
def wsX1_refusalIn : List Cond := .code yX1_refusalIn cX1_refusalIn 4 (some .int) :: ((wsX1_refusalIn_r1 ++ (wsX1_refusalIn_r2 ++ wsX1_refusalIn_r3)) ++ wsX30 ++ (vx_atM "java/lang/ArrayIndexOutOfBoundsException" ["java/lang/IndexOutOfBoundsException", "java/lang/RuntimeException", "java/lang/Exception"]).filter goodWord)
def wsX3_welcome : List Cond := .code yX3_welcome cX3_welcome 4 (some .int) :: ([.fieldLink RX3 41 "HatReservations$Hall" "guests" "I", .fieldLink RX3 9 "HatReservations$Hall" "feathers" "[I", .fieldLink RX3 15 "HatReservations$Hall" "brims" "[I"] ++ wsX30 ++ (vx_atM "java/lang/ArrayIndexOutOfBoundsException" ["java/lang/IndexOutOfBoundsException", "java/lang/RuntimeException", "java/lang/Exception"]).filter goodWord)
def wsX3_coveredChairs : List Cond := .code yX3_coveredChairs cX3_coveredChairs 4 (some .long) :: ([.fieldLink RX3 24 "HatReservations$Hall" "covers" "[J"] ++ wsX30 ++ (vx_atM "java/lang/ArrayIndexOutOfBoundsException" ["java/lang/IndexOutOfBoundsException", "java/lang/RuntimeException", "java/lang/Exception"]).filter goodWord)
def wsX3_reach : List Cond := .code yX3_reach cX3_reach 12 (some .long) :: ([])
def wsJ13_bitCount_95d88 : List Cond := .code yJ13_bitCount_95d88 cJ13_bitCount_95d88 2 (some .int) :: ([.constantLong RJ13 314 (6148914691236517205), .constantLong RJ13 316 (3689348814741910323), .constantLong RJ13 318 (1085102592571150095)])
def wsX3_putHat : List Cond := .code yX3_putHat cX3_putHat 5 (some .int) :: ([.fieldLink RX3 18 "HatReservations$Hall" "hatChairs" "[I", .fieldLink RX3 21 "HatReservations$Hall" "touchTimes" "[I", .fieldLink RX3 44 "HatReservations$Hall" "time" "I", .fieldLink RX3 24 "HatReservations$Hall" "covers" "[J", .fieldLink RX3 15 "HatReservations$Hall" "brims" "[I", .methodLink RX3 91 yX3_coveredChairs, .instanceMethod yX3_coveredChairs, .selects RX3 yX3_coveredChairs yX3_coveredChairs, .initialized RX3, .code yX3_coveredChairs cX3_coveredChairs 4 (some .long), .methodLink RX3 95 yX3_reach, .static yX3_reach, .code yX3_reach cX3_reach 12 (some .long), .methodLink RX3 82 yJ13_bitCount_95d88, .static yJ13_bitCount_95d88, .initialized RJ13, .code yJ13_bitCount_95d88 cJ13_bitCount_95d88 2 (some .int), .constantLong RJ13 314 (6148914691236517205), .constantLong RJ13 316 (3689348814741910323), .constantLong RJ13 318 (1085102592571150095)] ++ wsX30 ++ (vx_atM "java/lang/ArrayIndexOutOfBoundsException" ["java/lang/IndexOutOfBoundsException", "java/lang/RuntimeException", "java/lang/Exception"]).filter goodWord)
def wsX3_liftHat : List Cond := .code yX3_liftHat cX3_liftHat 4 (some .long) :: ([.fieldLink RX3 24 "HatReservations$Hall" "covers" "[J", .fieldLink RX3 18 "HatReservations$Hall" "hatChairs" "[I"] ++ wsX30 ++ (vx_atM "java/lang/ArrayIndexOutOfBoundsException" ["java/lang/IndexOutOfBoundsException", "java/lang/RuntimeException", "java/lang/Exception"]).filter goodWord)
def wsX3_ownerAt : List Cond := .code yX3_ownerAt cX3_ownerAt 4 (some .int) :: ([.fieldLink RX3 28 "HatReservations$Hall" "coatChairs" "[I", .fieldLink RX3 31 "HatReservations$Hall" "coatPositions" "[I"] ++ wsX30 ++ (vx_atM "java/lang/ArrayIndexOutOfBoundsException" ["java/lang/IndexOutOfBoundsException", "java/lang/RuntimeException", "java/lang/Exception"]).filter goodWord)
def wsX3_pullCoat : List Cond := .code yX3_pullCoat cX3_pullCoat 4 (some .int) :: ([.fieldLink RX3 28 "HatReservations$Hall" "coatChairs" "[I", .fieldLink RX3 31 "HatReservations$Hall" "coatPositions" "[I"] ++ wsX30 ++ (vx_atM "java/lang/ArrayIndexOutOfBoundsException" ["java/lang/IndexOutOfBoundsException", "java/lang/RuntimeException", "java/lang/Exception"]).filter goodWord)
def wsX3_offerChair_r1 : List Cond := [Cond.fieldLink RX3 53 "HatReservations$Hall" "taken" "I", Cond.fieldLink RX3 50 "HatReservations$Hall" "lapsed" "I", Cond.methodLink RX3 107 yX3_ownerAt, Cond.instanceMethod yX3_ownerAt, Cond.selects RX3 yX3_ownerAt yX3_ownerAt, Cond.initialized RX3, Cond.code yX3_ownerAt cX3_ownerAt 4 (some .int), Cond.fieldLink RX3 28 "HatReservations$Hall" "coatChairs" "[I", Cond.fieldLink RX3 31 "HatReservations$Hall" "coatPositions" "[I", Cond.methodLink RX3 115 yX3_pullCoat, Cond.instanceMethod yX3_pullCoat, Cond.selects RX3 yX3_pullCoat yX3_pullCoat, Cond.code yX3_pullCoat cX3_pullCoat 4 (some .int), Cond.methodLink RX3 72 yX3_hatIsPlaced, Cond.instanceMethod yX3_hatIsPlaced, Cond.selects RX3 yX3_hatIsPlaced yX3_hatIsPlaced, Cond.code yX3_hatIsPlaced cX3_hatIsPlaced 2 (some .boolean), Cond.fieldLink RX3 18 "HatReservations$Hall" "hatChairs" "[I", Cond.methodLink RX3 118 yX3_putHat, Cond.instanceMethod yX3_putHat, Cond.selects RX3 yX3_putHat yX3_putHat, Cond.code yX3_putHat cX3_putHat 5 (some .int), Cond.fieldLink RX3 21 "HatReservations$Hall" "touchTimes" "[I", Cond.fieldLink RX3 44 "HatReservations$Hall" "time" "I"]
def wsX3_offerChair_r2 : List Cond := [Cond.fieldLink RX3 24 "HatReservations$Hall" "covers" "[J", Cond.fieldLink RX3 15 "HatReservations$Hall" "brims" "[I", Cond.methodLink RX3 91 yX3_coveredChairs, Cond.instanceMethod yX3_coveredChairs, Cond.selects RX3 yX3_coveredChairs yX3_coveredChairs, Cond.code yX3_coveredChairs cX3_coveredChairs 4 (some .long), Cond.methodLink RX3 95 yX3_reach, Cond.static yX3_reach, Cond.code yX3_reach cX3_reach 12 (some .long), Cond.methodLink RX3 82 yJ13_bitCount_95d88, Cond.static yJ13_bitCount_95d88, Cond.initialized RJ13, Cond.code yJ13_bitCount_95d88 cJ13_bitCount_95d88 2 (some .int), Cond.constantLong RJ13 314 (6148914691236517205), Cond.constantLong RJ13 316 (3689348814741910323), Cond.constantLong RJ13 318 (1085102592571150095)]
def wsX3_offerChair : List Cond := .code yX3_offerChair cX3_offerChair 4 none :: ((wsX3_offerChair_r1 ++ wsX3_offerChair_r2) ++ wsX30 ++ (vx_atM "java/lang/ArrayIndexOutOfBoundsException" ["java/lang/IndexOutOfBoundsException", "java/lang/RuntimeException", "java/lang/Exception"]).filter goodWord)
def wsX3_offerChairs_r1 : List Cond := [Cond.methodLink RX3 75 yX3_covererAt, Cond.instanceMethod yX3_covererAt, Cond.selects RX3 yX3_covererAt yX3_covererAt, Cond.initialized RX3, Cond.code yX3_covererAt cX3_covererAt 3 (some .int), Cond.fieldLink RX3 24 "HatReservations$Hall" "covers" "[J", Cond.methodLink RX3 111 yX3_offerChair, Cond.instanceMethod yX3_offerChair, Cond.selects RX3 yX3_offerChair yX3_offerChair, Cond.code yX3_offerChair cX3_offerChair 4 none, Cond.fieldLink RX3 53 "HatReservations$Hall" "taken" "I", Cond.fieldLink RX3 50 "HatReservations$Hall" "lapsed" "I", Cond.methodLink RX3 107 yX3_ownerAt, Cond.instanceMethod yX3_ownerAt, Cond.selects RX3 yX3_ownerAt yX3_ownerAt, Cond.code yX3_ownerAt cX3_ownerAt 4 (some .int), Cond.fieldLink RX3 28 "HatReservations$Hall" "coatChairs" "[I", Cond.fieldLink RX3 31 "HatReservations$Hall" "coatPositions" "[I", Cond.methodLink RX3 115 yX3_pullCoat, Cond.instanceMethod yX3_pullCoat, Cond.selects RX3 yX3_pullCoat yX3_pullCoat, Cond.code yX3_pullCoat cX3_pullCoat 4 (some .int), Cond.methodLink RX3 72 yX3_hatIsPlaced, Cond.instanceMethod yX3_hatIsPlaced]
def wsX3_offerChairs_r2 : List Cond := [Cond.selects RX3 yX3_hatIsPlaced yX3_hatIsPlaced, Cond.code yX3_hatIsPlaced cX3_hatIsPlaced 2 (some .boolean), Cond.fieldLink RX3 18 "HatReservations$Hall" "hatChairs" "[I", Cond.methodLink RX3 118 yX3_putHat, Cond.instanceMethod yX3_putHat, Cond.selects RX3 yX3_putHat yX3_putHat, Cond.code yX3_putHat cX3_putHat 5 (some .int), Cond.fieldLink RX3 21 "HatReservations$Hall" "touchTimes" "[I", Cond.fieldLink RX3 44 "HatReservations$Hall" "time" "I", Cond.fieldLink RX3 15 "HatReservations$Hall" "brims" "[I", Cond.methodLink RX3 91 yX3_coveredChairs, Cond.instanceMethod yX3_coveredChairs, Cond.selects RX3 yX3_coveredChairs yX3_coveredChairs, Cond.code yX3_coveredChairs cX3_coveredChairs 4 (some .long), Cond.methodLink RX3 95 yX3_reach, Cond.static yX3_reach, Cond.code yX3_reach cX3_reach 12 (some .long), Cond.methodLink RX3 82 yJ13_bitCount_95d88, Cond.static yJ13_bitCount_95d88, Cond.initialized RJ13, Cond.code yJ13_bitCount_95d88 cJ13_bitCount_95d88 2 (some .int), Cond.constantLong RJ13 314 (6148914691236517205), Cond.constantLong RJ13 316 (3689348814741910323), Cond.constantLong RJ13 318 (1085102592571150095)]
def wsX3_offerChairs : List Cond := .code yX3_offerChairs cX3_offerChairs 4 none :: ((wsX3_offerChairs_r1 ++ wsX3_offerChairs_r2) ++ wsX30 ++ (vx_atM "java/lang/ArrayIndexOutOfBoundsException" ["java/lang/IndexOutOfBoundsException", "java/lang/RuntimeException", "java/lang/Exception"]).filter goodWord)
def wsX3_giveChairsBack_r1 : List Cond := [Cond.methodLink RX3 99 yX3_liftHat, Cond.instanceMethod yX3_liftHat, Cond.selects RX3 yX3_liftHat yX3_liftHat, Cond.initialized RX3, Cond.code yX3_liftHat cX3_liftHat 4 (some .long), Cond.fieldLink RX3 24 "HatReservations$Hall" "covers" "[J", Cond.fieldLink RX3 18 "HatReservations$Hall" "hatChairs" "[I", Cond.methodLink RX3 103 yX3_offerChairs, Cond.instanceMethod yX3_offerChairs, Cond.selects RX3 yX3_offerChairs yX3_offerChairs, Cond.code yX3_offerChairs cX3_offerChairs 4 none, Cond.methodLink RX3 75 yX3_covererAt, Cond.instanceMethod yX3_covererAt, Cond.selects RX3 yX3_covererAt yX3_covererAt, Cond.code yX3_covererAt cX3_covererAt 3 (some .int), Cond.methodLink RX3 111 yX3_offerChair, Cond.instanceMethod yX3_offerChair, Cond.selects RX3 yX3_offerChair yX3_offerChair, Cond.code yX3_offerChair cX3_offerChair 4 none, Cond.fieldLink RX3 53 "HatReservations$Hall" "taken" "I", Cond.fieldLink RX3 50 "HatReservations$Hall" "lapsed" "I", Cond.methodLink RX3 107 yX3_ownerAt, Cond.instanceMethod yX3_ownerAt, Cond.selects RX3 yX3_ownerAt yX3_ownerAt]
def wsX3_giveChairsBack_r2 : List Cond := [Cond.code yX3_ownerAt cX3_ownerAt 4 (some .int), Cond.fieldLink RX3 28 "HatReservations$Hall" "coatChairs" "[I", Cond.fieldLink RX3 31 "HatReservations$Hall" "coatPositions" "[I", Cond.methodLink RX3 115 yX3_pullCoat, Cond.instanceMethod yX3_pullCoat, Cond.selects RX3 yX3_pullCoat yX3_pullCoat, Cond.code yX3_pullCoat cX3_pullCoat 4 (some .int), Cond.methodLink RX3 72 yX3_hatIsPlaced, Cond.instanceMethod yX3_hatIsPlaced, Cond.selects RX3 yX3_hatIsPlaced yX3_hatIsPlaced, Cond.code yX3_hatIsPlaced cX3_hatIsPlaced 2 (some .boolean), Cond.methodLink RX3 118 yX3_putHat, Cond.instanceMethod yX3_putHat, Cond.selects RX3 yX3_putHat yX3_putHat, Cond.code yX3_putHat cX3_putHat 5 (some .int), Cond.fieldLink RX3 21 "HatReservations$Hall" "touchTimes" "[I", Cond.fieldLink RX3 44 "HatReservations$Hall" "time" "I", Cond.fieldLink RX3 15 "HatReservations$Hall" "brims" "[I", Cond.methodLink RX3 91 yX3_coveredChairs, Cond.instanceMethod yX3_coveredChairs, Cond.selects RX3 yX3_coveredChairs yX3_coveredChairs, Cond.code yX3_coveredChairs cX3_coveredChairs 4 (some .long), Cond.methodLink RX3 95 yX3_reach, Cond.static yX3_reach]
def wsX3_giveChairsBack_r3 : List Cond := [Cond.code yX3_reach cX3_reach 12 (some .long), Cond.methodLink RX3 82 yJ13_bitCount_95d88, Cond.static yJ13_bitCount_95d88, Cond.initialized RJ13, Cond.code yJ13_bitCount_95d88 cJ13_bitCount_95d88 2 (some .int), Cond.constantLong RJ13 314 (6148914691236517205), Cond.constantLong RJ13 316 (3689348814741910323), Cond.constantLong RJ13 318 (1085102592571150095)]
def wsX3_giveChairsBack : List Cond := .code yX3_giveChairsBack cX3_giveChairsBack 4 (some .int) :: ((wsX3_giveChairsBack_r1 ++ (wsX3_giveChairsBack_r2 ++ wsX3_giveChairsBack_r3)) ++ wsX30 ++ (vx_atM "java/lang/ArrayIndexOutOfBoundsException" ["java/lang/IndexOutOfBoundsException", "java/lang/RuntimeException", "java/lang/Exception"]).filter goodWord)
def wsX3_idleTime : List Cond := .code yX3_idleTime cX3_idleTime 2 (some .int) :: ([.fieldLink RX3 44 "HatReservations$Hall" "time" "I", .fieldLink RX3 21 "HatReservations$Hall" "touchTimes" "[I"] ++ wsX30 ++ (vx_atM "java/lang/ArrayIndexOutOfBoundsException" ["java/lang/IndexOutOfBoundsException", "java/lang/RuntimeException", "java/lang/Exception"]).filter goodWord)
def wsX3_startIdleTimeAgain : List Cond := .code yX3_startIdleTimeAgain cX3_startIdleTimeAgain 3 (some .int) :: ([.fieldLink RX3 21 "HatReservations$Hall" "touchTimes" "[I", .fieldLink RX3 44 "HatReservations$Hall" "time" "I", .methodLink RX3 88 yX3_idleTime, .instanceMethod yX3_idleTime, .selects RX3 yX3_idleTime yX3_idleTime, .initialized RX3, .code yX3_idleTime cX3_idleTime 2 (some .int)] ++ wsX30 ++ (vx_atM "java/lang/ArrayIndexOutOfBoundsException" ["java/lang/IndexOutOfBoundsException", "java/lang/RuntimeException", "java/lang/Exception"]).filter goodWord)
def wsX3_putCoat : List Cond := .code yX3_putCoat cX3_putCoat 4 (some .int) :: ([.fieldLink RX3 37 "HatReservations$Hall" "coatsEverLeft" "I", .fieldLink RX3 34 "HatReservations$Hall" "coatOrders" "[I", .fieldLink RX3 31 "HatReservations$Hall" "coatPositions" "[I", .fieldLink RX3 28 "HatReservations$Hall" "coatChairs" "[I", .methodLink RX3 79 yX3_coatsOn, .instanceMethod yX3_coatsOn, .selects RX3 yX3_coatsOn yX3_coatsOn, .initialized RX3, .code yX3_coatsOn cX3_coatsOn 4 (some .int)] ++ wsX30 ++ (vx_atM "java/lang/ArrayIndexOutOfBoundsException" ["java/lang/IndexOutOfBoundsException", "java/lang/RuntimeException", "java/lang/Exception"]).filter goodWord)
def wsX3_isStronger : List Cond := .code yX3_isStronger cX3_isStronger 3 (some .boolean) :: ([.fieldLink RX3 9 "HatReservations$Hall" "feathers" "[I"] ++ wsX30 ++ (vx_atM "java/lang/ArrayIndexOutOfBoundsException" ["java/lang/IndexOutOfBoundsException", "java/lang/RuntimeException", "java/lang/Exception"]).filter goodWord)
def wsX3_loseChair : List Cond := .code yX3_loseChair cX3_loseChair 12 (some .long) :: ([.fieldLink RX3 18 "HatReservations$Hall" "hatChairs" "[I", .constantLong RX3 134 (-1), .fieldLink RX3 24 "HatReservations$Hall" "covers" "[J", .methodLink RX3 99 yX3_liftHat, .instanceMethod yX3_liftHat, .selects RX3 yX3_liftHat yX3_liftHat, .initialized RX3, .code yX3_liftHat cX3_liftHat 4 (some .long)] ++ wsX30 ++ (vx_atM "java/lang/ArrayIndexOutOfBoundsException" ["java/lang/IndexOutOfBoundsException", "java/lang/RuntimeException", "java/lang/Exception"]).filter goodWord)
def wsX3_fightFor_r1 : List Cond := [Cond.fieldLink RX3 9 "HatReservations$Hall" "feathers" "[I", Cond.methodLink RX3 125 Lib.Math.max.name, Cond.static Lib.Math.max.name, Cond.initialized "java/lang/Math", Cond.code Lib.Math.max.name Lib.Math.max.code 2 (some .int), Cond.fieldLink RX3 56 "HatReservations$Hall" "won" "I", Cond.methodLink RX3 75 yX3_covererAt, Cond.instanceMethod yX3_covererAt, Cond.selects RX3 yX3_covererAt yX3_covererAt, Cond.initialized RX3, Cond.code yX3_covererAt cX3_covererAt 3 (some .int), Cond.fieldLink RX3 24 "HatReservations$Hall" "covers" "[J", Cond.methodLink RX3 121 yX3_isStronger, Cond.instanceMethod yX3_isStronger, Cond.selects RX3 yX3_isStronger yX3_isStronger, Cond.code yX3_isStronger cX3_isStronger 3 (some .boolean), Cond.methodLink RX3 130 yX3_loseChair, Cond.instanceMethod yX3_loseChair, Cond.selects RX3 yX3_loseChair yX3_loseChair, Cond.code yX3_loseChair cX3_loseChair 12 (some .long), Cond.fieldLink RX3 18 "HatReservations$Hall" "hatChairs" "[I", Cond.constantLong RX3 134 (-1), Cond.methodLink RX3 99 yX3_liftHat, Cond.instanceMethod yX3_liftHat]
def wsX3_fightFor_r2 : List Cond := [Cond.selects RX3 yX3_liftHat yX3_liftHat, Cond.code yX3_liftHat cX3_liftHat 4 (some .long), Cond.methodLink RX3 118 yX3_putHat, Cond.instanceMethod yX3_putHat, Cond.selects RX3 yX3_putHat yX3_putHat, Cond.code yX3_putHat cX3_putHat 5 (some .int), Cond.fieldLink RX3 21 "HatReservations$Hall" "touchTimes" "[I", Cond.fieldLink RX3 44 "HatReservations$Hall" "time" "I", Cond.fieldLink RX3 15 "HatReservations$Hall" "brims" "[I", Cond.methodLink RX3 91 yX3_coveredChairs, Cond.instanceMethod yX3_coveredChairs, Cond.selects RX3 yX3_coveredChairs yX3_coveredChairs, Cond.code yX3_coveredChairs cX3_coveredChairs 4 (some .long), Cond.methodLink RX3 95 yX3_reach, Cond.static yX3_reach, Cond.code yX3_reach cX3_reach 12 (some .long), Cond.methodLink RX3 82 yJ13_bitCount_95d88, Cond.static yJ13_bitCount_95d88, Cond.initialized RJ13, Cond.code yJ13_bitCount_95d88 cJ13_bitCount_95d88 2 (some .int), Cond.constantLong RJ13 314 (6148914691236517205), Cond.constantLong RJ13 316 (3689348814741910323), Cond.constantLong RJ13 318 (1085102592571150095), Cond.methodLink RX3 103 yX3_offerChairs]
def wsX3_fightFor_r3 : List Cond := [Cond.instanceMethod yX3_offerChairs, Cond.selects RX3 yX3_offerChairs yX3_offerChairs, Cond.code yX3_offerChairs cX3_offerChairs 4 none, Cond.methodLink RX3 111 yX3_offerChair, Cond.instanceMethod yX3_offerChair, Cond.selects RX3 yX3_offerChair yX3_offerChair, Cond.code yX3_offerChair cX3_offerChair 4 none, Cond.fieldLink RX3 53 "HatReservations$Hall" "taken" "I", Cond.fieldLink RX3 50 "HatReservations$Hall" "lapsed" "I", Cond.methodLink RX3 107 yX3_ownerAt, Cond.instanceMethod yX3_ownerAt, Cond.selects RX3 yX3_ownerAt yX3_ownerAt, Cond.code yX3_ownerAt cX3_ownerAt 4 (some .int), Cond.fieldLink RX3 28 "HatReservations$Hall" "coatChairs" "[I", Cond.fieldLink RX3 31 "HatReservations$Hall" "coatPositions" "[I", Cond.methodLink RX3 115 yX3_pullCoat, Cond.instanceMethod yX3_pullCoat, Cond.selects RX3 yX3_pullCoat yX3_pullCoat, Cond.code yX3_pullCoat cX3_pullCoat 4 (some .int), Cond.methodLink RX3 72 yX3_hatIsPlaced, Cond.instanceMethod yX3_hatIsPlaced, Cond.selects RX3 yX3_hatIsPlaced yX3_hatIsPlaced, Cond.code yX3_hatIsPlaced cX3_hatIsPlaced 2 (some .boolean)]
def wsX3_fightFor : List Cond := .code yX3_fightFor cX3_fightFor 6 (some .boolean) :: ((wsX3_fightFor_r1 ++ (wsX3_fightFor_r2 ++ wsX3_fightFor_r3)) ++ wsX30 ++ (vx_atM "java/lang/ArrayIndexOutOfBoundsException" ["java/lang/IndexOutOfBoundsException", "java/lang/RuntimeException", "java/lang/Exception"]).filter goodWord)
def wsX3_letPass : List Cond := .code yX3_letPass cX3_letPass 2 (some .int) :: ([.fieldLink RX3 44 "HatReservations$Hall" "time" "I"] ++ wsX30)
def wsX3_sweepHats_r1 : List Cond := [Cond.fieldLink RX3 47 "HatReservations$Hall" "swept" "I", Cond.methodLink RX3 72 yX3_hatIsPlaced, Cond.instanceMethod yX3_hatIsPlaced, Cond.selects RX3 yX3_hatIsPlaced yX3_hatIsPlaced, Cond.initialized RX3, Cond.code yX3_hatIsPlaced cX3_hatIsPlaced 2 (some .boolean), Cond.fieldLink RX3 18 "HatReservations$Hall" "hatChairs" "[I", Cond.methodLink RX3 88 yX3_idleTime, Cond.instanceMethod yX3_idleTime, Cond.selects RX3 yX3_idleTime yX3_idleTime, Cond.code yX3_idleTime cX3_idleTime 2 (some .int), Cond.fieldLink RX3 44 "HatReservations$Hall" "time" "I", Cond.fieldLink RX3 21 "HatReservations$Hall" "touchTimes" "[I", Cond.methodLink RX3 99 yX3_liftHat, Cond.instanceMethod yX3_liftHat, Cond.selects RX3 yX3_liftHat yX3_liftHat, Cond.code yX3_liftHat cX3_liftHat 4 (some .long), Cond.fieldLink RX3 24 "HatReservations$Hall" "covers" "[J", Cond.methodLink RX3 103 yX3_offerChairs, Cond.instanceMethod yX3_offerChairs, Cond.selects RX3 yX3_offerChairs yX3_offerChairs, Cond.code yX3_offerChairs cX3_offerChairs 4 none, Cond.methodLink RX3 75 yX3_covererAt, Cond.instanceMethod yX3_covererAt]
def wsX3_sweepHats_r2 : List Cond := [Cond.selects RX3 yX3_covererAt yX3_covererAt, Cond.code yX3_covererAt cX3_covererAt 3 (some .int), Cond.methodLink RX3 111 yX3_offerChair, Cond.instanceMethod yX3_offerChair, Cond.selects RX3 yX3_offerChair yX3_offerChair, Cond.code yX3_offerChair cX3_offerChair 4 none, Cond.fieldLink RX3 53 "HatReservations$Hall" "taken" "I", Cond.fieldLink RX3 50 "HatReservations$Hall" "lapsed" "I", Cond.methodLink RX3 107 yX3_ownerAt, Cond.instanceMethod yX3_ownerAt, Cond.selects RX3 yX3_ownerAt yX3_ownerAt, Cond.code yX3_ownerAt cX3_ownerAt 4 (some .int), Cond.fieldLink RX3 28 "HatReservations$Hall" "coatChairs" "[I", Cond.fieldLink RX3 31 "HatReservations$Hall" "coatPositions" "[I", Cond.methodLink RX3 115 yX3_pullCoat, Cond.instanceMethod yX3_pullCoat, Cond.selects RX3 yX3_pullCoat yX3_pullCoat, Cond.code yX3_pullCoat cX3_pullCoat 4 (some .int), Cond.methodLink RX3 118 yX3_putHat, Cond.instanceMethod yX3_putHat, Cond.selects RX3 yX3_putHat yX3_putHat, Cond.code yX3_putHat cX3_putHat 5 (some .int), Cond.fieldLink RX3 15 "HatReservations$Hall" "brims" "[I", Cond.methodLink RX3 91 yX3_coveredChairs]
def wsX3_sweepHats_r3 : List Cond := [Cond.instanceMethod yX3_coveredChairs, Cond.selects RX3 yX3_coveredChairs yX3_coveredChairs, Cond.code yX3_coveredChairs cX3_coveredChairs 4 (some .long), Cond.methodLink RX3 95 yX3_reach, Cond.static yX3_reach, Cond.code yX3_reach cX3_reach 12 (some .long), Cond.methodLink RX3 82 yJ13_bitCount_95d88, Cond.static yJ13_bitCount_95d88, Cond.initialized RJ13, Cond.code yJ13_bitCount_95d88 cJ13_bitCount_95d88 2 (some .int), Cond.constantLong RJ13 314 (6148914691236517205), Cond.constantLong RJ13 316 (3689348814741910323), Cond.constantLong RJ13 318 (1085102592571150095)]
def wsX3_sweepHats : List Cond := .code yX3_sweepHats cX3_sweepHats 6 (some .int) :: ((wsX3_sweepHats_r1 ++ (wsX3_sweepHats_r2 ++ wsX3_sweepHats_r3)) ++ wsX30 ++ (vx_atM "java/lang/ArrayIndexOutOfBoundsException" ["java/lang/IndexOutOfBoundsException", "java/lang/RuntimeException", "java/lang/Exception"]).filter goodWord)
def wsX3_gainFeather : List Cond := .code yX3_gainFeather cX3_gainFeather 2 (some .int) :: ([.fieldLink RX3 9 "HatReservations$Hall" "feathers" "[I"] ++ wsX30 ++ (vx_atM "java/lang/ArrayIndexOutOfBoundsException" ["java/lang/IndexOutOfBoundsException", "java/lang/RuntimeException", "java/lang/Exception"]).filter goodWord)
def wsX1_carryOutIn_r1 : List Cond := [Cond.fieldLink RX1 68 "HatReservations$1" "$SwitchMap$HatReservations$Command" "[I", Cond.methodLink RX1 74 ⟨"HatReservations$Command", "ordinal", "()I"⟩, Cond.sameMethod "HatReservations$Command" "java/lang/Enum" "ordinal" "()I", Cond.selects RX1 ⟨"HatReservations$Command", "ordinal", "()I"⟩ yJx29ce0_ordinal_8abf5, Cond.instanceMethod yJx29ce0_ordinal_8abf5, Cond.initialized RJx29ce0, Cond.code yJx29ce0_ordinal_8abf5 cJx29ce0_ordinal_8abf5 1 (some .int), Cond.fieldLink RJx29ce0 7 "java/lang/Enum" "ordinal" "I", Cond.methodLink RX1 109 yX3_welcome, Cond.instanceMethod yX3_welcome, Cond.selects RX3 yX3_welcome yX3_welcome, Cond.initialized RX3, Cond.code yX3_welcome cX3_welcome 4 (some .int), Cond.fieldLink RX3 41 "HatReservations$Hall" "guests" "I", Cond.fieldLink RX3 9 "HatReservations$Hall" "feathers" "[I", Cond.fieldLink RX3 15 "HatReservations$Hall" "brims" "[I", Cond.methodLink RX1 112 yX3_putHat, Cond.instanceMethod yX3_putHat, Cond.selects RX3 yX3_putHat yX3_putHat, Cond.code yX3_putHat cX3_putHat 5 (some .int), Cond.fieldLink RX3 18 "HatReservations$Hall" "hatChairs" "[I", Cond.fieldLink RX3 21 "HatReservations$Hall" "touchTimes" "[I", Cond.fieldLink RX3 44 "HatReservations$Hall" "time" "I", Cond.fieldLink RX3 24 "HatReservations$Hall" "covers" "[J"]
def wsX1_carryOutIn_r2 : List Cond := [Cond.methodLink RX3 91 yX3_coveredChairs, Cond.instanceMethod yX3_coveredChairs, Cond.selects RX3 yX3_coveredChairs yX3_coveredChairs, Cond.code yX3_coveredChairs cX3_coveredChairs 4 (some .long), Cond.methodLink RX3 95 yX3_reach, Cond.static yX3_reach, Cond.code yX3_reach cX3_reach 12 (some .long), Cond.methodLink RX3 82 yJ13_bitCount_95d88, Cond.static yJ13_bitCount_95d88, Cond.initialized RJ13, Cond.code yJ13_bitCount_95d88 cJ13_bitCount_95d88 2 (some .int), Cond.constantLong RJ13 314 (6148914691236517205), Cond.constantLong RJ13 316 (3689348814741910323), Cond.constantLong RJ13 318 (1085102592571150095), Cond.methodLink RX1 115 yX3_giveChairsBack, Cond.instanceMethod yX3_giveChairsBack, Cond.selects RX3 yX3_giveChairsBack yX3_giveChairsBack, Cond.code yX3_giveChairsBack cX3_giveChairsBack 4 (some .int), Cond.methodLink RX3 99 yX3_liftHat, Cond.instanceMethod yX3_liftHat, Cond.selects RX3 yX3_liftHat yX3_liftHat, Cond.code yX3_liftHat cX3_liftHat 4 (some .long), Cond.methodLink RX3 103 yX3_offerChairs, Cond.instanceMethod yX3_offerChairs]
def wsX1_carryOutIn_r3 : List Cond := [Cond.selects RX3 yX3_offerChairs yX3_offerChairs, Cond.code yX3_offerChairs cX3_offerChairs 4 none, Cond.methodLink RX3 75 yX3_covererAt, Cond.instanceMethod yX3_covererAt, Cond.selects RX3 yX3_covererAt yX3_covererAt, Cond.code yX3_covererAt cX3_covererAt 3 (some .int), Cond.methodLink RX3 111 yX3_offerChair, Cond.instanceMethod yX3_offerChair, Cond.selects RX3 yX3_offerChair yX3_offerChair, Cond.code yX3_offerChair cX3_offerChair 4 none, Cond.fieldLink RX3 53 "HatReservations$Hall" "taken" "I", Cond.fieldLink RX3 50 "HatReservations$Hall" "lapsed" "I", Cond.methodLink RX3 107 yX3_ownerAt, Cond.instanceMethod yX3_ownerAt, Cond.selects RX3 yX3_ownerAt yX3_ownerAt, Cond.code yX3_ownerAt cX3_ownerAt 4 (some .int), Cond.fieldLink RX3 28 "HatReservations$Hall" "coatChairs" "[I", Cond.fieldLink RX3 31 "HatReservations$Hall" "coatPositions" "[I", Cond.methodLink RX3 115 yX3_pullCoat, Cond.instanceMethod yX3_pullCoat, Cond.selects RX3 yX3_pullCoat yX3_pullCoat, Cond.code yX3_pullCoat cX3_pullCoat 4 (some .int), Cond.methodLink RX3 72 yX3_hatIsPlaced, Cond.instanceMethod yX3_hatIsPlaced]
def wsX1_carryOutIn_r4 : List Cond := [Cond.selects RX3 yX3_hatIsPlaced yX3_hatIsPlaced, Cond.code yX3_hatIsPlaced cX3_hatIsPlaced 2 (some .boolean), Cond.methodLink RX3 118 yX3_putHat, Cond.methodLink RX1 118 yX3_startIdleTimeAgain, Cond.instanceMethod yX3_startIdleTimeAgain, Cond.selects RX3 yX3_startIdleTimeAgain yX3_startIdleTimeAgain, Cond.code yX3_startIdleTimeAgain cX3_startIdleTimeAgain 3 (some .int), Cond.methodLink RX3 88 yX3_idleTime, Cond.instanceMethod yX3_idleTime, Cond.selects RX3 yX3_idleTime yX3_idleTime, Cond.code yX3_idleTime cX3_idleTime 2 (some .int), Cond.methodLink RX1 121 yX3_putCoat, Cond.instanceMethod yX3_putCoat, Cond.selects RX3 yX3_putCoat yX3_putCoat, Cond.code yX3_putCoat cX3_putCoat 4 (some .int), Cond.fieldLink RX3 37 "HatReservations$Hall" "coatsEverLeft" "I", Cond.fieldLink RX3 34 "HatReservations$Hall" "coatOrders" "[I", Cond.methodLink RX3 79 yX3_coatsOn, Cond.instanceMethod yX3_coatsOn, Cond.selects RX3 yX3_coatsOn yX3_coatsOn, Cond.code yX3_coatsOn cX3_coatsOn 4 (some .int), Cond.methodLink RX1 124 yX3_pullCoat, Cond.methodLink RX1 127 yX3_fightFor, Cond.instanceMethod yX3_fightFor]
def wsX1_carryOutIn_r5 : List Cond := [Cond.selects RX3 yX3_fightFor yX3_fightFor, Cond.code yX3_fightFor cX3_fightFor 6 (some .boolean), Cond.methodLink RX3 125 Lib.Math.max.name, Cond.static Lib.Math.max.name, Cond.initialized "java/lang/Math", Cond.code Lib.Math.max.name Lib.Math.max.code 2 (some .int), Cond.fieldLink RX3 56 "HatReservations$Hall" "won" "I", Cond.methodLink RX3 121 yX3_isStronger, Cond.instanceMethod yX3_isStronger, Cond.selects RX3 yX3_isStronger yX3_isStronger, Cond.code yX3_isStronger cX3_isStronger 3 (some .boolean), Cond.methodLink RX3 130 yX3_loseChair, Cond.instanceMethod yX3_loseChair, Cond.selects RX3 yX3_loseChair yX3_loseChair, Cond.code yX3_loseChair cX3_loseChair 12 (some .long), Cond.constantLong RX3 134 (-1), Cond.methodLink RX1 131 yX3_letPass, Cond.instanceMethod yX3_letPass, Cond.selects RX3 yX3_letPass yX3_letPass, Cond.code yX3_letPass cX3_letPass 2 (some .int), Cond.methodLink RX1 134 yX3_sweepHats, Cond.instanceMethod yX3_sweepHats, Cond.selects RX3 yX3_sweepHats yX3_sweepHats, Cond.code yX3_sweepHats cX3_sweepHats 6 (some .int)]
def wsX1_carryOutIn_r6 : List Cond := [Cond.fieldLink RX3 47 "HatReservations$Hall" "swept" "I", Cond.methodLink RX1 137 yX3_gainFeather, Cond.instanceMethod yX3_gainFeather, Cond.selects RX3 yX3_gainFeather yX3_gainFeather, Cond.code yX3_gainFeather cX3_gainFeather 2 (some .int)]
def wsX1_carryOutIn : List Cond := .code yX1_carryOutIn cX1_carryOutIn 4 none :: ((wsX1_carryOutIn_r1 ++ (wsX1_carryOutIn_r2 ++ (wsX1_carryOutIn_r3 ++ (wsX1_carryOutIn_r4 ++ (wsX1_carryOutIn_r5 ++ wsX1_carryOutIn_r6))))) ++ wsX30 ++ (vx_atM "java/lang/ArrayIndexOutOfBoundsException" ["java/lang/IndexOutOfBoundsException", "java/lang/RuntimeException", "java/lang/Exception"]).filter goodWord)
def wsX2_init : List Cond := .code yX2_init cX2_init 2 none :: ([.methodLink RX2 3 objectInit, .instanceMethod objectInit, .code objectInit ⟨#[0xb1]⟩ 1 none, .arrayClass .char, .fieldLink RX2 9 "HatReservations$CommandText" "characters" "[C", .fieldLink RX2 15 "HatReservations$CommandText" "length" "I", .classLink RX2 19 RX1, .fieldLink RX2 21 "HatReservations$CommandText" "commands" "[LHatReservations$Command;", .arrayClass .int, .fieldLink RX2 25 "HatReservations$CommandText" "firsts" "[I", .fieldLink RX2 29 "HatReservations$CommandText" "seconds" "[I", .fieldLink RX2 32 "HatReservations$CommandText" "commandCount" "I", .fieldLink RX2 35 "HatReservations$CommandText" "position" "I", .fieldLink RX2 38 "HatReservations$Command" "GUEST" "LHatReservations$Command;"] ++ wsX20)
def wsX2_isFull : List Cond := .code yX2_isFull cX2_isFull 1 (some .boolean) :: ([.fieldLink RX2 15 "HatReservations$CommandText" "length" "I"] ++ wsX20)
def wsX2_add : List Cond := .code yX2_add cX2_add 2 (some .int) :: ([.fieldLink RX2 9 "HatReservations$CommandText" "characters" "[C", .fieldLink RX2 15 "HatReservations$CommandText" "length" "I"] ++ wsX20 ++ (vx_atM "java/lang/ArrayIndexOutOfBoundsException" ["java/lang/IndexOutOfBoundsException", "java/lang/RuntimeException", "java/lang/Exception"]).filter goodWord)
def wsX2_empty : List Cond := .code yX2_empty cX2_empty 1 none :: ([.fieldLink RX2 15 "HatReservations$CommandText" "length" "I"] ++ wsX20)
def wsJ0_coder_7d493 : List Cond := .code yJ0_coder_7d493 cJ0_coder_7d493 1 (some .byte) :: ([.fieldLink RJ0 38 "java/lang/String" "COMPACT_STRINGS" "Z", .fieldLink RJ0 15 "java/lang/String" "coder" "B"] ++ wsJ00)
def wsJ0_length_8abf5 : List Cond := .code yJ0_length_8abf5 cJ0_length_8abf5 1 (some .int) :: ([.fieldLink RJ0 9 "java/lang/String" "value" "[B", .methodLink RJ0 335 yJ0_coder_7d493, .instanceMethod yJ0_coder_7d493, .selects RJ0 yJ0_coder_7d493 yJ0_coder_7d493, .initialized RJ0, .code yJ0_coder_7d493 cJ0_coder_7d493 1 (some .byte), .fieldLink RJ0 38 "java/lang/String" "COMPACT_STRINGS" "Z", .fieldLink RJ0 15 "java/lang/String" "coder" "B"] ++ wsJ00)
def wsJ0_isLatin1_aae02 : List Cond := .code yJ0_isLatin1_aae02 cJ0_isLatin1_aae02 1 (some .boolean) :: ([.fieldLink RJ0 38 "java/lang/String" "COMPACT_STRINGS" "Z", .fieldLink RJ0 15 "java/lang/String" "coder" "B"] ++ wsJ00)
def wsJ3_checkIndex_8e157 : List Cond := .code yJ3_checkIndex_8e157 cJ3_checkIndex_8e157 3 (some .int) :: ([])
def wsJ0_checkIndex_df160 : List Cond := .code yJ0_checkIndex_df160 cJ0_checkIndex_df160 2 none :: ([.fieldLink RJ0 1053 "jdk/internal/util/Preconditions" "SIOOBE_FORMATTER" "Ljava/util/function/BiFunction;", .methodLink RJ0 1059 yJ3_checkIndex_8e157, .static yJ3_checkIndex_8e157, .initialized RJ3, .code yJ3_checkIndex_8e157 cJ3_checkIndex_8e157 3 (some .int)])
def wsJ1_charAt_3b067 : List Cond := .code yJ1_charAt_3b067 cJ1_charAt_3b067 2 (some .char) :: ([.methodLink RJ1 9 yJ0_checkIndex_df160, .static yJ0_checkIndex_df160, .initialized RJ0, .code yJ0_checkIndex_df160 cJ0_checkIndex_df160 2 none, .fieldLink RJ0 1053 "jdk/internal/util/Preconditions" "SIOOBE_FORMATTER" "Ljava/util/function/BiFunction;", .methodLink RJ0 1059 yJ3_checkIndex_8e157, .static yJ3_checkIndex_8e157, .initialized RJ3, .code yJ3_checkIndex_8e157 cJ3_checkIndex_8e157 3 (some .int)])
def wsJ2_length_9d52b : List Cond := .code yJ2_length_9d52b cJ2_length_9d52b 1 (some .int) :: ([])
def wsJ2_checkIndex_2214a : List Cond := .code yJ2_checkIndex_2214a cJ2_checkIndex_2214a 2 none :: ([.methodLink RJ2 48 yJ2_length_9d52b, .static yJ2_length_9d52b, .initialized RJ2, .code yJ2_length_9d52b cJ2_length_9d52b 1 (some .int), .methodLink RJ2 414 yJ0_checkIndex_df160, .static yJ0_checkIndex_df160, .initialized RJ0, .code yJ0_checkIndex_df160 cJ0_checkIndex_df160 2 none, .fieldLink RJ0 1053 "jdk/internal/util/Preconditions" "SIOOBE_FORMATTER" "Ljava/util/function/BiFunction;", .methodLink RJ0 1059 yJ3_checkIndex_8e157, .static yJ3_checkIndex_8e157, .initialized RJ3, .code yJ3_checkIndex_8e157 cJ3_checkIndex_8e157 3 (some .int)])
def wsJ2_getChar_3b067 : List Cond := .code yJ2_getChar_3b067 cJ2_getChar_3b067 2 (some .char) :: ([.fieldLink RJ2 44 "java/lang/StringUTF16" "$assertionsDisabled" "Z", .fieldLink RJ2 59 "java/lang/StringUTF16" "HI_BYTE_SHIFT" "I", .fieldLink RJ2 63 "java/lang/StringUTF16" "LO_BYTE_SHIFT" "I", .methodLink RJ2 48 yJ2_length_9d52b, .static yJ2_length_9d52b, .initialized RJ2, .code yJ2_length_9d52b cJ2_length_9d52b 1 (some .int)])
def wsJ2_charAt_3b067 : List Cond := .code yJ2_charAt_3b067 cJ2_charAt_3b067 2 (some .char) :: ([.methodLink RJ2 67 yJ2_checkIndex_2214a, .static yJ2_checkIndex_2214a, .initialized RJ2, .code yJ2_checkIndex_2214a cJ2_checkIndex_2214a 2 none, .methodLink RJ2 48 yJ2_length_9d52b, .static yJ2_length_9d52b, .code yJ2_length_9d52b cJ2_length_9d52b 1 (some .int), .methodLink RJ2 414 yJ0_checkIndex_df160, .static yJ0_checkIndex_df160, .initialized RJ0, .code yJ0_checkIndex_df160 cJ0_checkIndex_df160 2 none, .fieldLink RJ0 1053 "jdk/internal/util/Preconditions" "SIOOBE_FORMATTER" "Ljava/util/function/BiFunction;", .methodLink RJ0 1059 yJ3_checkIndex_8e157, .static yJ3_checkIndex_8e157, .initialized RJ3, .code yJ3_checkIndex_8e157 cJ3_checkIndex_8e157 3 (some .int), .methodLink RJ2 71 yJ2_getChar_3b067, .static yJ2_getChar_3b067, .code yJ2_getChar_3b067 cJ2_getChar_3b067 2 (some .char), .fieldLink RJ2 44 "java/lang/StringUTF16" "$assertionsDisabled" "Z", .fieldLink RJ2 59 "java/lang/StringUTF16" "HI_BYTE_SHIFT" "I", .fieldLink RJ2 63 "java/lang/StringUTF16" "LO_BYTE_SHIFT" "I"])
def wsJ0_charAt_5068e_r1 : List Cond := [Cond.fieldLink RJ0 9 "java/lang/String" "value" "[B", Cond.methodLink RJ0 492 yJ0_isLatin1_aae02, Cond.instanceMethod yJ0_isLatin1_aae02, Cond.selects RJ0 yJ0_isLatin1_aae02 yJ0_isLatin1_aae02, Cond.initialized RJ0, Cond.code yJ0_isLatin1_aae02 cJ0_isLatin1_aae02 1 (some .boolean), Cond.fieldLink RJ0 38 "java/lang/String" "COMPACT_STRINGS" "Z", Cond.fieldLink RJ0 15 "java/lang/String" "coder" "B", Cond.methodLink RJ0 495 yJ1_charAt_3b067, Cond.static yJ1_charAt_3b067, Cond.initialized RJ1, Cond.code yJ1_charAt_3b067 cJ1_charAt_3b067 2 (some .char), Cond.methodLink RJ1 9 yJ0_checkIndex_df160, Cond.static yJ0_checkIndex_df160, Cond.code yJ0_checkIndex_df160 cJ0_checkIndex_df160 2 none, Cond.fieldLink RJ0 1053 "jdk/internal/util/Preconditions" "SIOOBE_FORMATTER" "Ljava/util/function/BiFunction;", Cond.methodLink RJ0 1059 yJ3_checkIndex_8e157, Cond.static yJ3_checkIndex_8e157, Cond.initialized RJ3, Cond.code yJ3_checkIndex_8e157 cJ3_checkIndex_8e157 3 (some .int), Cond.methodLink RJ0 498 yJ2_charAt_3b067, Cond.static yJ2_charAt_3b067, Cond.initialized RJ2, Cond.code yJ2_charAt_3b067 cJ2_charAt_3b067 2 (some .char)]
def wsJ0_charAt_5068e_r2 : List Cond := [Cond.methodLink RJ2 67 yJ2_checkIndex_2214a, Cond.static yJ2_checkIndex_2214a, Cond.code yJ2_checkIndex_2214a cJ2_checkIndex_2214a 2 none, Cond.methodLink RJ2 48 yJ2_length_9d52b, Cond.static yJ2_length_9d52b, Cond.code yJ2_length_9d52b cJ2_length_9d52b 1 (some .int), Cond.methodLink RJ2 414 yJ0_checkIndex_df160, Cond.methodLink RJ2 71 yJ2_getChar_3b067, Cond.static yJ2_getChar_3b067, Cond.code yJ2_getChar_3b067 cJ2_getChar_3b067 2 (some .char), Cond.fieldLink RJ2 44 "java/lang/StringUTF16" "$assertionsDisabled" "Z", Cond.fieldLink RJ2 59 "java/lang/StringUTF16" "HI_BYTE_SHIFT" "I", Cond.fieldLink RJ2 63 "java/lang/StringUTF16" "LO_BYTE_SHIFT" "I"]
def wsJ0_charAt_5068e : List Cond := .code yJ0_charAt_5068e cJ0_charAt_5068e 2 (some .char) :: ((wsJ0_charAt_5068e_r1 ++ wsJ0_charAt_5068e_r2) ++ wsJ00)
def wsX2_countMatched_r1 : List Cond := [Cond.fieldLink RX2 15 "HatReservations$CommandText" "length" "I", Cond.fieldLink RX2 9 "HatReservations$CommandText" "characters" "[C", Cond.methodLink RX2 85 yJ0_length_8abf5, Cond.instanceMethod yJ0_length_8abf5, Cond.selects RJ0 yJ0_length_8abf5 yJ0_length_8abf5, Cond.initialized RJ0, Cond.code yJ0_length_8abf5 cJ0_length_8abf5 1 (some .int), Cond.fieldLink RJ0 9 "java/lang/String" "value" "[B", Cond.methodLink RJ0 335 yJ0_coder_7d493, Cond.instanceMethod yJ0_coder_7d493, Cond.selects RJ0 yJ0_coder_7d493 yJ0_coder_7d493, Cond.code yJ0_coder_7d493 cJ0_coder_7d493 1 (some .byte), Cond.fieldLink RJ0 38 "java/lang/String" "COMPACT_STRINGS" "Z", Cond.fieldLink RJ0 15 "java/lang/String" "coder" "B", Cond.methodLink RX2 90 yJ0_charAt_5068e, Cond.instanceMethod yJ0_charAt_5068e, Cond.selects RJ0 yJ0_charAt_5068e yJ0_charAt_5068e, Cond.code yJ0_charAt_5068e cJ0_charAt_5068e 2 (some .char), Cond.methodLink RJ0 492 yJ0_isLatin1_aae02, Cond.instanceMethod yJ0_isLatin1_aae02, Cond.selects RJ0 yJ0_isLatin1_aae02 yJ0_isLatin1_aae02, Cond.code yJ0_isLatin1_aae02 cJ0_isLatin1_aae02 1 (some .boolean), Cond.methodLink RJ0 495 yJ1_charAt_3b067, Cond.static yJ1_charAt_3b067]
def wsX2_countMatched_r2 : List Cond := [Cond.initialized RJ1, Cond.code yJ1_charAt_3b067 cJ1_charAt_3b067 2 (some .char), Cond.methodLink RJ1 9 yJ0_checkIndex_df160, Cond.static yJ0_checkIndex_df160, Cond.code yJ0_checkIndex_df160 cJ0_checkIndex_df160 2 none, Cond.fieldLink RJ0 1053 "jdk/internal/util/Preconditions" "SIOOBE_FORMATTER" "Ljava/util/function/BiFunction;", Cond.methodLink RJ0 1059 yJ3_checkIndex_8e157, Cond.static yJ3_checkIndex_8e157, Cond.initialized RJ3, Cond.code yJ3_checkIndex_8e157 cJ3_checkIndex_8e157 3 (some .int), Cond.methodLink RJ0 498 yJ2_charAt_3b067, Cond.static yJ2_charAt_3b067, Cond.initialized RJ2, Cond.code yJ2_charAt_3b067 cJ2_charAt_3b067 2 (some .char), Cond.methodLink RJ2 67 yJ2_checkIndex_2214a, Cond.static yJ2_checkIndex_2214a, Cond.code yJ2_checkIndex_2214a cJ2_checkIndex_2214a 2 none, Cond.methodLink RJ2 48 yJ2_length_9d52b, Cond.static yJ2_length_9d52b, Cond.code yJ2_length_9d52b cJ2_length_9d52b 1 (some .int), Cond.methodLink RJ2 414 yJ0_checkIndex_df160, Cond.methodLink RJ2 71 yJ2_getChar_3b067, Cond.static yJ2_getChar_3b067, Cond.code yJ2_getChar_3b067 cJ2_getChar_3b067 2 (some .char)]
def wsX2_countMatched_r3 : List Cond := [Cond.fieldLink RJ2 44 "java/lang/StringUTF16" "$assertionsDisabled" "Z", Cond.fieldLink RJ2 59 "java/lang/StringUTF16" "HI_BYTE_SHIFT" "I", Cond.fieldLink RJ2 63 "java/lang/StringUTF16" "LO_BYTE_SHIFT" "I"]
def wsX2_countMatched : List Cond := .code yX2_countMatched cX2_countMatched 6 (some .int) :: ((wsX2_countMatched_r1 ++ (wsX2_countMatched_r2 ++ wsX2_countMatched_r3)) ++ wsX20 ++ wsJ00 ++ (vx_atM "java/lang/ArrayIndexOutOfBoundsException" ["java/lang/IndexOutOfBoundsException", "java/lang/RuntimeException", "java/lang/Exception"]).filter goodWord)
def wsX2_readKeyword_r1 : List Cond := [Cond.fieldLink RX2 35 "HatReservations$CommandText" "position" "I", Cond.fieldLink RX2 71 "HatReservations$Command" "keyword" "Ljava/lang/String;", Cond.methodLink RX2 79 Lib.Math.max.name, Cond.static Lib.Math.max.name, Cond.initialized "java/lang/Math", Cond.code Lib.Math.max.name Lib.Math.max.code 2 (some .int), Cond.methodLink RX2 75 yX2_countMatched, Cond.instanceMethod yX2_countMatched, Cond.selects RX2 yX2_countMatched yX2_countMatched, Cond.initialized RX2, Cond.code yX2_countMatched cX2_countMatched 6 (some .int), Cond.fieldLink RX2 15 "HatReservations$CommandText" "length" "I", Cond.fieldLink RX2 9 "HatReservations$CommandText" "characters" "[C", Cond.methodLink RX2 85 yJ0_length_8abf5, Cond.instanceMethod yJ0_length_8abf5, Cond.selects RJ0 yJ0_length_8abf5 yJ0_length_8abf5, Cond.initialized RJ0, Cond.code yJ0_length_8abf5 cJ0_length_8abf5 1 (some .int), Cond.fieldLink RJ0 9 "java/lang/String" "value" "[B", Cond.methodLink RJ0 335 yJ0_coder_7d493, Cond.instanceMethod yJ0_coder_7d493, Cond.selects RJ0 yJ0_coder_7d493 yJ0_coder_7d493, Cond.code yJ0_coder_7d493 cJ0_coder_7d493 1 (some .byte), Cond.fieldLink RJ0 38 "java/lang/String" "COMPACT_STRINGS" "Z"]
def wsX2_readKeyword_r2 : List Cond := [Cond.fieldLink RJ0 15 "java/lang/String" "coder" "B", Cond.methodLink RX2 90 yJ0_charAt_5068e, Cond.instanceMethod yJ0_charAt_5068e, Cond.selects RJ0 yJ0_charAt_5068e yJ0_charAt_5068e, Cond.code yJ0_charAt_5068e cJ0_charAt_5068e 2 (some .char), Cond.methodLink RJ0 492 yJ0_isLatin1_aae02, Cond.instanceMethod yJ0_isLatin1_aae02, Cond.selects RJ0 yJ0_isLatin1_aae02 yJ0_isLatin1_aae02, Cond.code yJ0_isLatin1_aae02 cJ0_isLatin1_aae02 1 (some .boolean), Cond.methodLink RJ0 495 yJ1_charAt_3b067, Cond.static yJ1_charAt_3b067, Cond.initialized RJ1, Cond.code yJ1_charAt_3b067 cJ1_charAt_3b067 2 (some .char), Cond.methodLink RJ1 9 yJ0_checkIndex_df160, Cond.static yJ0_checkIndex_df160, Cond.code yJ0_checkIndex_df160 cJ0_checkIndex_df160 2 none, Cond.fieldLink RJ0 1053 "jdk/internal/util/Preconditions" "SIOOBE_FORMATTER" "Ljava/util/function/BiFunction;", Cond.methodLink RJ0 1059 yJ3_checkIndex_8e157, Cond.static yJ3_checkIndex_8e157, Cond.initialized RJ3, Cond.code yJ3_checkIndex_8e157 cJ3_checkIndex_8e157 3 (some .int), Cond.methodLink RJ0 498 yJ2_charAt_3b067, Cond.static yJ2_charAt_3b067, Cond.initialized RJ2]
def wsX2_readKeyword_r3 : List Cond := [Cond.code yJ2_charAt_3b067 cJ2_charAt_3b067 2 (some .char), Cond.methodLink RJ2 67 yJ2_checkIndex_2214a, Cond.static yJ2_checkIndex_2214a, Cond.code yJ2_checkIndex_2214a cJ2_checkIndex_2214a 2 none, Cond.methodLink RJ2 48 yJ2_length_9d52b, Cond.static yJ2_length_9d52b, Cond.code yJ2_length_9d52b cJ2_length_9d52b 1 (some .int), Cond.methodLink RJ2 414 yJ0_checkIndex_df160, Cond.methodLink RJ2 71 yJ2_getChar_3b067, Cond.static yJ2_getChar_3b067, Cond.code yJ2_getChar_3b067 cJ2_getChar_3b067 2 (some .char), Cond.fieldLink RJ2 44 "java/lang/StringUTF16" "$assertionsDisabled" "Z", Cond.fieldLink RJ2 59 "java/lang/StringUTF16" "HI_BYTE_SHIFT" "I", Cond.fieldLink RJ2 63 "java/lang/StringUTF16" "LO_BYTE_SHIFT" "I"]
def wsX2_readKeyword : List Cond := .code yX2_readKeyword cX2_readKeyword 5 (some (.object "HatReservations$Command")) :: ((wsX2_readKeyword_r1 ++ (wsX2_readKeyword_r2 ++ wsX2_readKeyword_r3)) ++ wsX20 ++ wsJ00 ++ (vx_atM "java/lang/ArrayIndexOutOfBoundsException" ["java/lang/IndexOutOfBoundsException", "java/lang/RuntimeException", "java/lang/Exception"]).filter goodWord)
def wsX2_standsOnDigit : List Cond := .code yX2_standsOnDigit cX2_standsOnDigit 1 (some .boolean) :: ([.fieldLink RX2 35 "HatReservations$CommandText" "position" "I", .fieldLink RX2 15 "HatReservations$CommandText" "length" "I", .fieldLink RX2 9 "HatReservations$CommandText" "characters" "[C"] ++ wsX20 ++ (vx_atM "java/lang/ArrayIndexOutOfBoundsException" ["java/lang/IndexOutOfBoundsException", "java/lang/RuntimeException", "java/lang/Exception"]).filter goodWord)
def wsX2_readNumber : List Cond := .code yX2_readNumber cX2_readNumber 4 (some .int) :: ([.fieldLink RX2 9 "HatReservations$CommandText" "characters" "[C", .fieldLink RX2 35 "HatReservations$CommandText" "position" "I", .methodLink RX2 94 yX2_standsOnDigit, .instanceMethod yX2_standsOnDigit, .selects RX2 yX2_standsOnDigit yX2_standsOnDigit, .initialized RX2, .code yX2_standsOnDigit cX2_standsOnDigit 1 (some .boolean), .fieldLink RX2 15 "HatReservations$CommandText" "length" "I"] ++ wsX20 ++ (vx_atM "java/lang/ArrayIndexOutOfBoundsException" ["java/lang/IndexOutOfBoundsException", "java/lang/RuntimeException", "java/lang/Exception"]).filter goodWord)
def wsX2_readSign : List Cond := .code yX2_readSign cX2_readSign 2 (some .boolean) :: ([.fieldLink RX2 35 "HatReservations$CommandText" "position" "I", .fieldLink RX2 15 "HatReservations$CommandText" "length" "I", .fieldLink RX2 9 "HatReservations$CommandText" "characters" "[C"] ++ wsX20 ++ (vx_atM "java/lang/ArrayIndexOutOfBoundsException" ["java/lang/IndexOutOfBoundsException", "java/lang/RuntimeException", "java/lang/Exception"]).filter goodWord)
def wsX2_readCommand_r1 : List Cond := [Cond.fieldLink RX2 54 "HatReservations$Command" "firstDigits" "I", Cond.fieldLink RX2 61 "HatReservations$Command" "isSpaced" "Z", Cond.fieldLink RX2 65 "HatReservations$Command" "secondDigits" "I", Cond.fieldLink RX2 21 "HatReservations$CommandText" "commands" "[LHatReservations$Command;", Cond.fieldLink RX2 25 "HatReservations$CommandText" "firsts" "[I", Cond.fieldLink RX2 29 "HatReservations$CommandText" "seconds" "[I", Cond.methodLink RX2 50 yX2_readKeyword, Cond.instanceMethod yX2_readKeyword, Cond.selects RX2 yX2_readKeyword yX2_readKeyword, Cond.initialized RX2, Cond.code yX2_readKeyword cX2_readKeyword 5 (some (.object "HatReservations$Command")), Cond.fieldLink RX2 35 "HatReservations$CommandText" "position" "I", Cond.fieldLink RX2 71 "HatReservations$Command" "keyword" "Ljava/lang/String;", Cond.methodLink RX2 79 Lib.Math.max.name, Cond.static Lib.Math.max.name, Cond.initialized "java/lang/Math", Cond.code Lib.Math.max.name Lib.Math.max.code 2 (some .int), Cond.methodLink RX2 75 yX2_countMatched, Cond.instanceMethod yX2_countMatched, Cond.selects RX2 yX2_countMatched yX2_countMatched, Cond.code yX2_countMatched cX2_countMatched 6 (some .int), Cond.fieldLink RX2 15 "HatReservations$CommandText" "length" "I", Cond.fieldLink RX2 9 "HatReservations$CommandText" "characters" "[C", Cond.methodLink RX2 85 yJ0_length_8abf5]
def wsX2_readCommand_r2 : List Cond := [Cond.instanceMethod yJ0_length_8abf5, Cond.selects RJ0 yJ0_length_8abf5 yJ0_length_8abf5, Cond.initialized RJ0, Cond.code yJ0_length_8abf5 cJ0_length_8abf5 1 (some .int), Cond.fieldLink RJ0 9 "java/lang/String" "value" "[B", Cond.methodLink RJ0 335 yJ0_coder_7d493, Cond.instanceMethod yJ0_coder_7d493, Cond.selects RJ0 yJ0_coder_7d493 yJ0_coder_7d493, Cond.code yJ0_coder_7d493 cJ0_coder_7d493 1 (some .byte), Cond.fieldLink RJ0 38 "java/lang/String" "COMPACT_STRINGS" "Z", Cond.fieldLink RJ0 15 "java/lang/String" "coder" "B", Cond.methodLink RX2 90 yJ0_charAt_5068e, Cond.instanceMethod yJ0_charAt_5068e, Cond.selects RJ0 yJ0_charAt_5068e yJ0_charAt_5068e, Cond.code yJ0_charAt_5068e cJ0_charAt_5068e 2 (some .char), Cond.methodLink RJ0 492 yJ0_isLatin1_aae02, Cond.instanceMethod yJ0_isLatin1_aae02, Cond.selects RJ0 yJ0_isLatin1_aae02 yJ0_isLatin1_aae02, Cond.code yJ0_isLatin1_aae02 cJ0_isLatin1_aae02 1 (some .boolean), Cond.methodLink RJ0 495 yJ1_charAt_3b067, Cond.static yJ1_charAt_3b067, Cond.initialized RJ1, Cond.code yJ1_charAt_3b067 cJ1_charAt_3b067 2 (some .char), Cond.methodLink RJ1 9 yJ0_checkIndex_df160]
def wsX2_readCommand_r3 : List Cond := [Cond.static yJ0_checkIndex_df160, Cond.code yJ0_checkIndex_df160 cJ0_checkIndex_df160 2 none, Cond.fieldLink RJ0 1053 "jdk/internal/util/Preconditions" "SIOOBE_FORMATTER" "Ljava/util/function/BiFunction;", Cond.methodLink RJ0 1059 yJ3_checkIndex_8e157, Cond.static yJ3_checkIndex_8e157, Cond.initialized RJ3, Cond.code yJ3_checkIndex_8e157 cJ3_checkIndex_8e157 3 (some .int), Cond.methodLink RJ0 498 yJ2_charAt_3b067, Cond.static yJ2_charAt_3b067, Cond.initialized RJ2, Cond.code yJ2_charAt_3b067 cJ2_charAt_3b067 2 (some .char), Cond.methodLink RJ2 67 yJ2_checkIndex_2214a, Cond.static yJ2_checkIndex_2214a, Cond.code yJ2_checkIndex_2214a cJ2_checkIndex_2214a 2 none, Cond.methodLink RJ2 48 yJ2_length_9d52b, Cond.static yJ2_length_9d52b, Cond.code yJ2_length_9d52b cJ2_length_9d52b 1 (some .int), Cond.methodLink RJ2 414 yJ0_checkIndex_df160, Cond.methodLink RJ2 71 yJ2_getChar_3b067, Cond.static yJ2_getChar_3b067, Cond.code yJ2_getChar_3b067 cJ2_getChar_3b067 2 (some .char), Cond.fieldLink RJ2 44 "java/lang/StringUTF16" "$assertionsDisabled" "Z", Cond.fieldLink RJ2 59 "java/lang/StringUTF16" "HI_BYTE_SHIFT" "I", Cond.fieldLink RJ2 63 "java/lang/StringUTF16" "LO_BYTE_SHIFT" "I"]
def wsX2_readCommand_r4 : List Cond := [Cond.methodLink RX2 57 yX2_readNumber, Cond.instanceMethod yX2_readNumber, Cond.selects RX2 yX2_readNumber yX2_readNumber, Cond.code yX2_readNumber cX2_readNumber 4 (some .int), Cond.methodLink RX2 94 yX2_standsOnDigit, Cond.instanceMethod yX2_standsOnDigit, Cond.selects RX2 yX2_standsOnDigit yX2_standsOnDigit, Cond.code yX2_standsOnDigit cX2_standsOnDigit 1 (some .boolean), Cond.methodLink RX2 46 yX2_readSign, Cond.instanceMethod yX2_readSign, Cond.selects RX2 yX2_readSign yX2_readSign, Cond.code yX2_readSign cX2_readSign 2 (some .boolean)]
def wsX2_readCommand : List Cond := .code yX2_readCommand cX2_readCommand 5 (some .boolean) :: ((wsX2_readCommand_r1 ++ (wsX2_readCommand_r2 ++ (wsX2_readCommand_r3 ++ wsX2_readCommand_r4))) ++ wsX20 ++ wsJ00 ++ (vx_atM "java/lang/ArrayIndexOutOfBoundsException" ["java/lang/IndexOutOfBoundsException", "java/lang/RuntimeException", "java/lang/Exception"]).filter goodWord)
def wsX2_read_r1 : List Cond := [Cond.fieldLink RX2 35 "HatReservations$CommandText" "position" "I", Cond.fieldLink RX2 32 "HatReservations$CommandText" "commandCount" "I", Cond.fieldLink RX2 15 "HatReservations$CommandText" "length" "I", Cond.methodLink RX2 42 yX2_readCommand, Cond.instanceMethod yX2_readCommand, Cond.selects RX2 yX2_readCommand yX2_readCommand, Cond.initialized RX2, Cond.code yX2_readCommand cX2_readCommand 5 (some .boolean), Cond.fieldLink RX2 54 "HatReservations$Command" "firstDigits" "I", Cond.fieldLink RX2 61 "HatReservations$Command" "isSpaced" "Z", Cond.fieldLink RX2 65 "HatReservations$Command" "secondDigits" "I", Cond.fieldLink RX2 21 "HatReservations$CommandText" "commands" "[LHatReservations$Command;", Cond.fieldLink RX2 25 "HatReservations$CommandText" "firsts" "[I", Cond.fieldLink RX2 29 "HatReservations$CommandText" "seconds" "[I", Cond.methodLink RX2 50 yX2_readKeyword, Cond.instanceMethod yX2_readKeyword, Cond.selects RX2 yX2_readKeyword yX2_readKeyword, Cond.code yX2_readKeyword cX2_readKeyword 5 (some (.object "HatReservations$Command")), Cond.fieldLink RX2 71 "HatReservations$Command" "keyword" "Ljava/lang/String;", Cond.methodLink RX2 79 Lib.Math.max.name, Cond.static Lib.Math.max.name, Cond.initialized "java/lang/Math", Cond.code Lib.Math.max.name Lib.Math.max.code 2 (some .int), Cond.methodLink RX2 75 yX2_countMatched]
def wsX2_read_r2 : List Cond := [Cond.instanceMethod yX2_countMatched, Cond.selects RX2 yX2_countMatched yX2_countMatched, Cond.code yX2_countMatched cX2_countMatched 6 (some .int), Cond.fieldLink RX2 9 "HatReservations$CommandText" "characters" "[C", Cond.methodLink RX2 85 yJ0_length_8abf5, Cond.instanceMethod yJ0_length_8abf5, Cond.selects RJ0 yJ0_length_8abf5 yJ0_length_8abf5, Cond.initialized RJ0, Cond.code yJ0_length_8abf5 cJ0_length_8abf5 1 (some .int), Cond.fieldLink RJ0 9 "java/lang/String" "value" "[B", Cond.methodLink RJ0 335 yJ0_coder_7d493, Cond.instanceMethod yJ0_coder_7d493, Cond.selects RJ0 yJ0_coder_7d493 yJ0_coder_7d493, Cond.code yJ0_coder_7d493 cJ0_coder_7d493 1 (some .byte), Cond.fieldLink RJ0 38 "java/lang/String" "COMPACT_STRINGS" "Z", Cond.fieldLink RJ0 15 "java/lang/String" "coder" "B", Cond.methodLink RX2 90 yJ0_charAt_5068e, Cond.instanceMethod yJ0_charAt_5068e, Cond.selects RJ0 yJ0_charAt_5068e yJ0_charAt_5068e, Cond.code yJ0_charAt_5068e cJ0_charAt_5068e 2 (some .char), Cond.methodLink RJ0 492 yJ0_isLatin1_aae02, Cond.instanceMethod yJ0_isLatin1_aae02, Cond.selects RJ0 yJ0_isLatin1_aae02 yJ0_isLatin1_aae02, Cond.code yJ0_isLatin1_aae02 cJ0_isLatin1_aae02 1 (some .boolean)]
def wsX2_read_r3 : List Cond := [Cond.methodLink RJ0 495 yJ1_charAt_3b067, Cond.static yJ1_charAt_3b067, Cond.initialized RJ1, Cond.code yJ1_charAt_3b067 cJ1_charAt_3b067 2 (some .char), Cond.methodLink RJ1 9 yJ0_checkIndex_df160, Cond.static yJ0_checkIndex_df160, Cond.code yJ0_checkIndex_df160 cJ0_checkIndex_df160 2 none, Cond.fieldLink RJ0 1053 "jdk/internal/util/Preconditions" "SIOOBE_FORMATTER" "Ljava/util/function/BiFunction;", Cond.methodLink RJ0 1059 yJ3_checkIndex_8e157, Cond.static yJ3_checkIndex_8e157, Cond.initialized RJ3, Cond.code yJ3_checkIndex_8e157 cJ3_checkIndex_8e157 3 (some .int), Cond.methodLink RJ0 498 yJ2_charAt_3b067, Cond.static yJ2_charAt_3b067, Cond.initialized RJ2, Cond.code yJ2_charAt_3b067 cJ2_charAt_3b067 2 (some .char), Cond.methodLink RJ2 67 yJ2_checkIndex_2214a, Cond.static yJ2_checkIndex_2214a, Cond.code yJ2_checkIndex_2214a cJ2_checkIndex_2214a 2 none, Cond.methodLink RJ2 48 yJ2_length_9d52b, Cond.static yJ2_length_9d52b, Cond.code yJ2_length_9d52b cJ2_length_9d52b 1 (some .int), Cond.methodLink RJ2 414 yJ0_checkIndex_df160, Cond.methodLink RJ2 71 yJ2_getChar_3b067]
def wsX2_read_r4 : List Cond := [Cond.static yJ2_getChar_3b067, Cond.code yJ2_getChar_3b067 cJ2_getChar_3b067 2 (some .char), Cond.fieldLink RJ2 44 "java/lang/StringUTF16" "$assertionsDisabled" "Z", Cond.fieldLink RJ2 59 "java/lang/StringUTF16" "HI_BYTE_SHIFT" "I", Cond.fieldLink RJ2 63 "java/lang/StringUTF16" "LO_BYTE_SHIFT" "I", Cond.methodLink RX2 57 yX2_readNumber, Cond.instanceMethod yX2_readNumber, Cond.selects RX2 yX2_readNumber yX2_readNumber, Cond.code yX2_readNumber cX2_readNumber 4 (some .int), Cond.methodLink RX2 94 yX2_standsOnDigit, Cond.instanceMethod yX2_standsOnDigit, Cond.selects RX2 yX2_standsOnDigit yX2_standsOnDigit, Cond.code yX2_standsOnDigit cX2_standsOnDigit 1 (some .boolean), Cond.methodLink RX2 46 yX2_readSign, Cond.instanceMethod yX2_readSign, Cond.selects RX2 yX2_readSign yX2_readSign, Cond.code yX2_readSign cX2_readSign 2 (some .boolean)]
def wsX2_read : List Cond := .code yX2_read cX2_read 2 (some .boolean) :: ((wsX2_read_r1 ++ (wsX2_read_r2 ++ (wsX2_read_r3 ++ wsX2_read_r4))) ++ wsX20 ++ wsJ00 ++ (vx_atM "java/lang/ArrayIndexOutOfBoundsException" ["java/lang/IndexOutOfBoundsException", "java/lang/RuntimeException", "java/lang/Exception"]).filter goodWord)
def wsX3_init : List Cond := .code yX3_init cX3_init 2 none :: ([.methodLink RX3 3 objectInit, .instanceMethod objectInit, .code objectInit ⟨#[0xb1]⟩ 1 none, .arrayClass .int, .fieldLink RX3 9 "HatReservations$Hall" "feathers" "[I", .fieldLink RX3 15 "HatReservations$Hall" "brims" "[I", .fieldLink RX3 18 "HatReservations$Hall" "hatChairs" "[I", .fieldLink RX3 21 "HatReservations$Hall" "touchTimes" "[I", .arrayClass .long, .fieldLink RX3 24 "HatReservations$Hall" "covers" "[J", .fieldLink RX3 28 "HatReservations$Hall" "coatChairs" "[I", .fieldLink RX3 31 "HatReservations$Hall" "coatPositions" "[I", .fieldLink RX3 34 "HatReservations$Hall" "coatOrders" "[I", .fieldLink RX3 37 "HatReservations$Hall" "coatsEverLeft" "I", .fieldLink RX3 41 "HatReservations$Hall" "guests" "I", .fieldLink RX3 44 "HatReservations$Hall" "time" "I", .fieldLink RX3 47 "HatReservations$Hall" "swept" "I", .fieldLink RX3 50 "HatReservations$Hall" "lapsed" "I", .fieldLink RX3 53 "HatReservations$Hall" "taken" "I", .fieldLink RX3 56 "HatReservations$Hall" "won" "I"] ++ wsX30 ++ (vx_atM "java/lang/ArrayIndexOutOfBoundsException" ["java/lang/IndexOutOfBoundsException", "java/lang/RuntimeException", "java/lang/Exception"]).filter goodWord)
def wsX3_become : List Cond := .code yX3_become cX3_become 2 none :: ([.fieldLink RX3 9 "HatReservations$Hall" "feathers" "[I", .methodLink RX3 59 arraycopyName, .native arraycopyName, .static arraycopyName, .initialized "java/lang/System", .fieldLink RX3 15 "HatReservations$Hall" "brims" "[I", .fieldLink RX3 18 "HatReservations$Hall" "hatChairs" "[I", .fieldLink RX3 21 "HatReservations$Hall" "touchTimes" "[I", .fieldLink RX3 24 "HatReservations$Hall" "covers" "[J", .fieldLink RX3 28 "HatReservations$Hall" "coatChairs" "[I", .fieldLink RX3 31 "HatReservations$Hall" "coatPositions" "[I", .fieldLink RX3 34 "HatReservations$Hall" "coatOrders" "[I", .fieldLink RX3 37 "HatReservations$Hall" "coatsEverLeft" "I", .fieldLink RX3 41 "HatReservations$Hall" "guests" "I", .fieldLink RX3 44 "HatReservations$Hall" "time" "I", .fieldLink RX3 47 "HatReservations$Hall" "swept" "I", .fieldLink RX3 50 "HatReservations$Hall" "lapsed" "I", .fieldLink RX3 53 "HatReservations$Hall" "taken" "I", .fieldLink RX3 56 "HatReservations$Hall" "won" "I"] ++ wsX30)
def wsX3_coverOf : List Cond := .code yX3_coverOf cX3_coverOf 2 (some .int) :: ([.fieldLink RX3 24 "HatReservations$Hall" "covers" "[J", .methodLink RX3 82 yJ13_bitCount_95d88, .static yJ13_bitCount_95d88, .initialized RJ13, .code yJ13_bitCount_95d88 cJ13_bitCount_95d88 2 (some .int), .constantLong RJ13 314 (6148914691236517205), .constantLong RJ13 316 (3689348814741910323), .constantLong RJ13 318 (1085102592571150095)] ++ wsX30 ++ (vx_atM "java/lang/ArrayIndexOutOfBoundsException" ["java/lang/IndexOutOfBoundsException", "java/lang/RuntimeException", "java/lang/Exception"]).filter goodWord)
def wsX3_claimantByQueue : List Cond := .code yX3_claimantByQueue cX3_claimantByQueue 4 (some .int) :: ([.methodLink RX3 107 yX3_ownerAt, .instanceMethod yX3_ownerAt, .selects RX3 yX3_ownerAt yX3_ownerAt, .initialized RX3, .code yX3_ownerAt cX3_ownerAt 4 (some .int), .fieldLink RX3 28 "HatReservations$Hall" "coatChairs" "[I", .fieldLink RX3 31 "HatReservations$Hall" "coatPositions" "[I", .methodLink RX3 72 yX3_hatIsPlaced, .instanceMethod yX3_hatIsPlaced, .selects RX3 yX3_hatIsPlaced yX3_hatIsPlaced, .code yX3_hatIsPlaced cX3_hatIsPlaced 2 (some .boolean), .fieldLink RX3 18 "HatReservations$Hall" "hatChairs" "[I"] ++ wsX30 ++ (vx_atM "java/lang/ArrayIndexOutOfBoundsException" ["java/lang/IndexOutOfBoundsException", "java/lang/RuntimeException", "java/lang/Exception"]).filter goodWord)
def wsX3_claimantByOrder : List Cond := .code yX3_claimantByOrder cX3_claimantByOrder 5 (some .int) :: ([.fieldLink RX3 28 "HatReservations$Hall" "coatChairs" "[I", .fieldLink RX3 34 "HatReservations$Hall" "coatOrders" "[I", .methodLink RX3 72 yX3_hatIsPlaced, .instanceMethod yX3_hatIsPlaced, .selects RX3 yX3_hatIsPlaced yX3_hatIsPlaced, .initialized RX3, .code yX3_hatIsPlaced cX3_hatIsPlaced 2 (some .boolean), .fieldLink RX3 18 "HatReservations$Hall" "hatChairs" "[I"] ++ wsX30 ++ (vx_atM "java/lang/ArrayIndexOutOfBoundsException" ["java/lang/IndexOutOfBoundsException", "java/lang/RuntimeException", "java/lang/Exception"]).filter goodWord)
def wsX3_idlest : List Cond := .code yX3_idlest cX3_idlest 3 (some .int) :: ([.methodLink RX3 72 yX3_hatIsPlaced, .instanceMethod yX3_hatIsPlaced, .selects RX3 yX3_hatIsPlaced yX3_hatIsPlaced, .initialized RX3, .code yX3_hatIsPlaced cX3_hatIsPlaced 2 (some .boolean), .fieldLink RX3 18 "HatReservations$Hall" "hatChairs" "[I", .methodLink RX3 88 yX3_idleTime, .instanceMethod yX3_idleTime, .selects RX3 yX3_idleTime yX3_idleTime, .code yX3_idleTime cX3_idleTime 2 (some .int), .fieldLink RX3 44 "HatReservations$Hall" "time" "I", .fieldLink RX3 21 "HatReservations$Hall" "touchTimes" "[I"] ++ wsX30 ++ (vx_atM "java/lang/ArrayIndexOutOfBoundsException" ["java/lang/IndexOutOfBoundsException", "java/lang/RuntimeException", "java/lang/Exception"]).filter goodWord)
def wsX3_countByChair : List Cond := .code yX3_countByChair cX3_countByChair 3 (some .int) :: ([.methodLink RX3 75 yX3_covererAt, .instanceMethod yX3_covererAt, .selects RX3 yX3_covererAt yX3_covererAt, .initialized RX3, .code yX3_covererAt cX3_covererAt 3 (some .int), .fieldLink RX3 24 "HatReservations$Hall" "covers" "[J"] ++ wsX30 ++ (vx_atM "java/lang/ArrayIndexOutOfBoundsException" ["java/lang/IndexOutOfBoundsException", "java/lang/RuntimeException", "java/lang/Exception"]).filter goodWord)
def wsX3_countPlaced : List Cond := .code yX3_countPlaced cX3_countPlaced 3 (some .int) :: ([.methodLink RX3 72 yX3_hatIsPlaced, .instanceMethod yX3_hatIsPlaced, .selects RX3 yX3_hatIsPlaced yX3_hatIsPlaced, .initialized RX3, .code yX3_hatIsPlaced cX3_hatIsPlaced 2 (some .boolean), .fieldLink RX3 18 "HatReservations$Hall" "hatChairs" "[I"] ++ wsX30 ++ (vx_atM "java/lang/ArrayIndexOutOfBoundsException" ["java/lang/IndexOutOfBoundsException", "java/lang/RuntimeException", "java/lang/Exception"]).filter goodWord)
def wsX3_freeRunByScan : List Cond := .code yX3_freeRunByScan cX3_freeRunByScan 5 (some .int) :: ([.methodLink RX3 125 Lib.Math.max.name, .static Lib.Math.max.name, .initialized "java/lang/Math", .code Lib.Math.max.name Lib.Math.max.code 2 (some .int), .methodLink RX3 75 yX3_covererAt, .instanceMethod yX3_covererAt, .selects RX3 yX3_covererAt yX3_covererAt, .initialized RX3, .code yX3_covererAt cX3_covererAt 3 (some .int), .fieldLink RX3 24 "HatReservations$Hall" "covers" "[J"] ++ wsX30 ++ (vx_atM "java/lang/ArrayIndexOutOfBoundsException" ["java/lang/IndexOutOfBoundsException", "java/lang/RuntimeException", "java/lang/Exception"]).filter goodWord)
def wsX3_freeRunByShift : List Cond := .code yX3_freeRunByShift cX3_freeRunByShift 6 (some .int) :: ([.constantLong RX3 134 (-1), .constantLong RX3 139 (1023), .methodLink RX3 91 yX3_coveredChairs, .instanceMethod yX3_coveredChairs, .selects RX3 yX3_coveredChairs yX3_coveredChairs, .initialized RX3, .code yX3_coveredChairs cX3_coveredChairs 4 (some .long), .fieldLink RX3 24 "HatReservations$Hall" "covers" "[J"] ++ wsX30 ++ (vx_atM "java/lang/ArrayIndexOutOfBoundsException" ["java/lang/IndexOutOfBoundsException", "java/lang/RuntimeException", "java/lang/Exception"]).filter goodWord)
def wsX3_precedes : List Cond := .code yX3_precedes cX3_precedes 3 (some .boolean) :: ([.fieldLink RX3 9 "HatReservations$Hall" "feathers" "[I", .methodLink RX3 136 yX3_coverOf, .instanceMethod yX3_coverOf, .selects RX3 yX3_coverOf yX3_coverOf, .initialized RX3, .code yX3_coverOf cX3_coverOf 2 (some .int), .fieldLink RX3 24 "HatReservations$Hall" "covers" "[J", .methodLink RX3 82 yJ13_bitCount_95d88, .static yJ13_bitCount_95d88, .initialized RJ13, .code yJ13_bitCount_95d88 cJ13_bitCount_95d88 2 (some .int), .constantLong RJ13 314 (6148914691236517205), .constantLong RJ13 316 (3689348814741910323), .constantLong RJ13 318 (1085102592571150095)] ++ wsX30 ++ (vx_atM "java/lang/ArrayIndexOutOfBoundsException" ["java/lang/IndexOutOfBoundsException", "java/lang/RuntimeException", "java/lang/Exception"]).filter goodWord)
def wsX3_countBefore : List Cond := .code yX3_countBefore cX3_countBefore 4 (some .int) :: ([.fieldLink RX3 41 "HatReservations$Hall" "guests" "I", .methodLink RX3 144 yX3_precedes, .instanceMethod yX3_precedes, .selects RX3 yX3_precedes yX3_precedes, .initialized RX3, .code yX3_precedes cX3_precedes 3 (some .boolean), .fieldLink RX3 9 "HatReservations$Hall" "feathers" "[I", .methodLink RX3 136 yX3_coverOf, .instanceMethod yX3_coverOf, .selects RX3 yX3_coverOf yX3_coverOf, .code yX3_coverOf cX3_coverOf 2 (some .int), .fieldLink RX3 24 "HatReservations$Hall" "covers" "[J", .methodLink RX3 82 yJ13_bitCount_95d88, .static yJ13_bitCount_95d88, .initialized RJ13, .code yJ13_bitCount_95d88 cJ13_bitCount_95d88 2 (some .int), .constantLong RJ13 314 (6148914691236517205), .constantLong RJ13 316 (3689348814741910323), .constantLong RJ13 318 (1085102592571150095)] ++ wsX30 ++ (vx_atM "java/lang/ArrayIndexOutOfBoundsException" ["java/lang/IndexOutOfBoundsException", "java/lang/RuntimeException", "java/lang/Exception"]).filter goodWord)
def wsX3_guestBehind : List Cond := .code yX3_guestBehind cX3_guestBehind 3 (some .int) :: ([.fieldLink RX3 41 "HatReservations$Hall" "guests" "I", .methodLink RX3 141 yX3_countBefore, .instanceMethod yX3_countBefore, .selects RX3 yX3_countBefore yX3_countBefore, .initialized RX3, .code yX3_countBefore cX3_countBefore 4 (some .int), .methodLink RX3 144 yX3_precedes, .instanceMethod yX3_precedes, .selects RX3 yX3_precedes yX3_precedes, .code yX3_precedes cX3_precedes 3 (some .boolean), .fieldLink RX3 9 "HatReservations$Hall" "feathers" "[I", .methodLink RX3 136 yX3_coverOf, .instanceMethod yX3_coverOf, .selects RX3 yX3_coverOf yX3_coverOf, .code yX3_coverOf cX3_coverOf 2 (some .int), .fieldLink RX3 24 "HatReservations$Hall" "covers" "[J", .methodLink RX3 82 yJ13_bitCount_95d88, .static yJ13_bitCount_95d88, .initialized RJ13, .code yJ13_bitCount_95d88 cJ13_bitCount_95d88 2 (some .int), .constantLong RJ13 314 (6148914691236517205), .constantLong RJ13 316 (3689348814741910323), .constantLong RJ13 318 (1085102592571150095)] ++ wsX30 ++ (vx_atM "java/lang/ArrayIndexOutOfBoundsException" ["java/lang/IndexOutOfBoundsException", "java/lang/RuntimeException", "java/lang/Exception"]).filter goodWord)
def wsX3_signOf : List Cond := .code yX3_signOf cX3_signOf 3 (some .char) :: ([.fieldLink RX3 18 "HatReservations$Hall" "hatChairs" "[I", .methodLink RX3 75 yX3_covererAt, .instanceMethod yX3_covererAt, .selects RX3 yX3_covererAt yX3_covererAt, .initialized RX3, .code yX3_covererAt cX3_covererAt 3 (some .int), .fieldLink RX3 24 "HatReservations$Hall" "covers" "[J"] ++ wsX30 ++ (vx_atM "java/lang/ArrayIndexOutOfBoundsException" ["java/lang/IndexOutOfBoundsException", "java/lang/RuntimeException", "java/lang/Exception"]).filter goodWord)
def wsX4_init_r1 : List Cond := [Cond.methodLink RX4 3 objectInit, Cond.instanceMethod objectInit, Cond.code objectInit ⟨#[0xb1]⟩ 1 none, Cond.classLink RX4 11 RX3, Cond.fieldLink RX4 13 "HatReservations$History" "halls" "[LHatReservations$Hall;", Cond.fieldLink RX4 17 "HatReservations$History" "spare" "I", Cond.fieldLink RX4 21 "HatReservations$History" "count" "I", Cond.instantiable RX3 15, Cond.initialized RX3, Cond.methodLink RX4 24 yX3_init, Cond.instanceMethod yX3_init, Cond.code yX3_init cX3_init 2 none, Cond.methodLink RX3 3 objectInit, Cond.arrayClass .int, Cond.fieldLink RX3 9 "HatReservations$Hall" "feathers" "[I", Cond.fieldLink RX3 15 "HatReservations$Hall" "brims" "[I", Cond.fieldLink RX3 18 "HatReservations$Hall" "hatChairs" "[I", Cond.fieldLink RX3 21 "HatReservations$Hall" "touchTimes" "[I", Cond.arrayClass .long, Cond.fieldLink RX3 24 "HatReservations$Hall" "covers" "[J", Cond.fieldLink RX3 28 "HatReservations$Hall" "coatChairs" "[I", Cond.fieldLink RX3 31 "HatReservations$Hall" "coatPositions" "[I", Cond.fieldLink RX3 34 "HatReservations$Hall" "coatOrders" "[I", Cond.fieldLink RX3 37 "HatReservations$Hall" "coatsEverLeft" "I"]
def wsX4_init_r2 : List Cond := [Cond.fieldLink RX3 41 "HatReservations$Hall" "guests" "I", Cond.fieldLink RX3 44 "HatReservations$Hall" "time" "I", Cond.fieldLink RX3 47 "HatReservations$Hall" "swept" "I", Cond.fieldLink RX3 50 "HatReservations$Hall" "lapsed" "I", Cond.fieldLink RX3 53 "HatReservations$Hall" "taken" "I", Cond.fieldLink RX3 56 "HatReservations$Hall" "won" "I"]
def wsX4_init : List Cond := .code yX4_init cX4_init 2 none :: ((wsX4_init_r1 ++ wsX4_init_r2) ++ wsX40 ++ wsX30 ++ (vx_atM "java/lang/ArrayIndexOutOfBoundsException" ["java/lang/IndexOutOfBoundsException", "java/lang/RuntimeException", "java/lang/Exception"]).filter goodWord)
def wsX4_prepare_r1 : List Cond := [Cond.fieldLink RX4 13 "HatReservations$History" "halls" "[LHatReservations$Hall;", Cond.fieldLink RX4 17 "HatReservations$History" "spare" "I", Cond.methodLink RX4 32 yX3_become, Cond.instanceMethod yX3_become, Cond.selects RX3 yX3_become yX3_become, Cond.initialized RX3, Cond.code yX3_become cX3_become 2 none, Cond.fieldLink RX3 9 "HatReservations$Hall" "feathers" "[I", Cond.methodLink RX3 59 arraycopyName, Cond.native arraycopyName, Cond.static arraycopyName, Cond.initialized "java/lang/System", Cond.fieldLink RX3 15 "HatReservations$Hall" "brims" "[I", Cond.fieldLink RX3 18 "HatReservations$Hall" "hatChairs" "[I", Cond.fieldLink RX3 21 "HatReservations$Hall" "touchTimes" "[I", Cond.fieldLink RX3 24 "HatReservations$Hall" "covers" "[J", Cond.fieldLink RX3 28 "HatReservations$Hall" "coatChairs" "[I", Cond.fieldLink RX3 31 "HatReservations$Hall" "coatPositions" "[I", Cond.fieldLink RX3 34 "HatReservations$Hall" "coatOrders" "[I", Cond.fieldLink RX3 37 "HatReservations$Hall" "coatsEverLeft" "I", Cond.fieldLink RX3 41 "HatReservations$Hall" "guests" "I", Cond.fieldLink RX3 44 "HatReservations$Hall" "time" "I", Cond.fieldLink RX3 47 "HatReservations$Hall" "swept" "I", Cond.fieldLink RX3 50 "HatReservations$Hall" "lapsed" "I"]
def wsX4_prepare_r2 : List Cond := [Cond.fieldLink RX3 53 "HatReservations$Hall" "taken" "I", Cond.fieldLink RX3 56 "HatReservations$Hall" "won" "I"]
def wsX4_prepare : List Cond := .code yX4_prepare cX4_prepare 2 none :: ((wsX4_prepare_r1 ++ wsX4_prepare_r2) ++ wsX40 ++ wsX30)
def wsX4_keep : List Cond := .code yX4_keep cX4_keep 1 none :: ([.fieldLink RX4 17 "HatReservations$History" "spare" "I", .fieldLink RX4 21 "HatReservations$History" "count" "I", .methodLink RX4 35 Lib.Math.min.name, .static Lib.Math.min.name, .initialized "java/lang/Math", .code Lib.Math.min.name Lib.Math.min.code 2 (some .int)] ++ wsX40)
def wsX4_remember_r1 : List Cond := [Cond.methodLink RX4 25 yX4_prepare, Cond.instanceMethod yX4_prepare, Cond.selects RX4 yX4_prepare yX4_prepare, Cond.initialized RX4, Cond.code yX4_prepare cX4_prepare 2 none, Cond.fieldLink RX4 13 "HatReservations$History" "halls" "[LHatReservations$Hall;", Cond.fieldLink RX4 17 "HatReservations$History" "spare" "I", Cond.methodLink RX4 32 yX3_become, Cond.instanceMethod yX3_become, Cond.selects RX3 yX3_become yX3_become, Cond.initialized RX3, Cond.code yX3_become cX3_become 2 none, Cond.fieldLink RX3 9 "HatReservations$Hall" "feathers" "[I", Cond.methodLink RX3 59 arraycopyName, Cond.native arraycopyName, Cond.static arraycopyName, Cond.initialized "java/lang/System", Cond.fieldLink RX3 15 "HatReservations$Hall" "brims" "[I", Cond.fieldLink RX3 18 "HatReservations$Hall" "hatChairs" "[I", Cond.fieldLink RX3 21 "HatReservations$Hall" "touchTimes" "[I", Cond.fieldLink RX3 24 "HatReservations$Hall" "covers" "[J", Cond.fieldLink RX3 28 "HatReservations$Hall" "coatChairs" "[I", Cond.fieldLink RX3 31 "HatReservations$Hall" "coatPositions" "[I", Cond.fieldLink RX3 34 "HatReservations$Hall" "coatOrders" "[I"]
def wsX4_remember_r2 : List Cond := [Cond.fieldLink RX3 37 "HatReservations$Hall" "coatsEverLeft" "I", Cond.fieldLink RX3 41 "HatReservations$Hall" "guests" "I", Cond.fieldLink RX3 44 "HatReservations$Hall" "time" "I", Cond.fieldLink RX3 47 "HatReservations$Hall" "swept" "I", Cond.fieldLink RX3 50 "HatReservations$Hall" "lapsed" "I", Cond.fieldLink RX3 53 "HatReservations$Hall" "taken" "I", Cond.fieldLink RX3 56 "HatReservations$Hall" "won" "I", Cond.methodLink RX4 29 yX4_keep, Cond.instanceMethod yX4_keep, Cond.selects RX4 yX4_keep yX4_keep, Cond.code yX4_keep cX4_keep 1 none, Cond.fieldLink RX4 21 "HatReservations$History" "count" "I", Cond.methodLink RX4 35 Lib.Math.min.name, Cond.static Lib.Math.min.name, Cond.initialized "java/lang/Math", Cond.code Lib.Math.min.name Lib.Math.min.code 2 (some .int)]
def wsX4_remember : List Cond := .code yX4_remember cX4_remember 2 none :: ((wsX4_remember_r1 ++ wsX4_remember_r2) ++ wsX40 ++ wsX30)
def wsX4_takeBack_r1 : List Cond := [Cond.fieldLink RX4 13 "HatReservations$History" "halls" "[LHatReservations$Hall;", Cond.fieldLink RX4 17 "HatReservations$History" "spare" "I", Cond.methodLink RX4 32 yX3_become, Cond.instanceMethod yX3_become, Cond.selects RX3 yX3_become yX3_become, Cond.initialized RX3, Cond.code yX3_become cX3_become 2 none, Cond.fieldLink RX3 9 "HatReservations$Hall" "feathers" "[I", Cond.methodLink RX3 59 arraycopyName, Cond.native arraycopyName, Cond.static arraycopyName, Cond.initialized "java/lang/System", Cond.fieldLink RX3 15 "HatReservations$Hall" "brims" "[I", Cond.fieldLink RX3 18 "HatReservations$Hall" "hatChairs" "[I", Cond.fieldLink RX3 21 "HatReservations$Hall" "touchTimes" "[I", Cond.fieldLink RX3 24 "HatReservations$Hall" "covers" "[J", Cond.fieldLink RX3 28 "HatReservations$Hall" "coatChairs" "[I", Cond.fieldLink RX3 31 "HatReservations$Hall" "coatPositions" "[I", Cond.fieldLink RX3 34 "HatReservations$Hall" "coatOrders" "[I", Cond.fieldLink RX3 37 "HatReservations$Hall" "coatsEverLeft" "I", Cond.fieldLink RX3 41 "HatReservations$Hall" "guests" "I", Cond.fieldLink RX3 44 "HatReservations$Hall" "time" "I", Cond.fieldLink RX3 47 "HatReservations$Hall" "swept" "I", Cond.fieldLink RX3 50 "HatReservations$Hall" "lapsed" "I"]
def wsX4_takeBack_r2 : List Cond := [Cond.fieldLink RX3 53 "HatReservations$Hall" "taken" "I", Cond.fieldLink RX3 56 "HatReservations$Hall" "won" "I"]
def wsX4_takeBack : List Cond := .code yX4_takeBack cX4_takeBack 2 none :: ((wsX4_takeBack_r1 ++ wsX4_takeBack_r2) ++ wsX40 ++ wsX30)
def wsX4_stepBack_r1 : List Cond := [Cond.fieldLink RX4 17 "HatReservations$History" "spare" "I", Cond.fieldLink RX4 13 "HatReservations$History" "halls" "[LHatReservations$Hall;", Cond.fieldLink RX4 21 "HatReservations$History" "count" "I", Cond.methodLink RX4 32 yX3_become, Cond.instanceMethod yX3_become, Cond.selects RX3 yX3_become yX3_become, Cond.initialized RX3, Cond.code yX3_become cX3_become 2 none, Cond.fieldLink RX3 9 "HatReservations$Hall" "feathers" "[I", Cond.methodLink RX3 59 arraycopyName, Cond.native arraycopyName, Cond.static arraycopyName, Cond.initialized "java/lang/System", Cond.fieldLink RX3 15 "HatReservations$Hall" "brims" "[I", Cond.fieldLink RX3 18 "HatReservations$Hall" "hatChairs" "[I", Cond.fieldLink RX3 21 "HatReservations$Hall" "touchTimes" "[I", Cond.fieldLink RX3 24 "HatReservations$Hall" "covers" "[J", Cond.fieldLink RX3 28 "HatReservations$Hall" "coatChairs" "[I", Cond.fieldLink RX3 31 "HatReservations$Hall" "coatPositions" "[I", Cond.fieldLink RX3 34 "HatReservations$Hall" "coatOrders" "[I", Cond.fieldLink RX3 37 "HatReservations$Hall" "coatsEverLeft" "I", Cond.fieldLink RX3 41 "HatReservations$Hall" "guests" "I", Cond.fieldLink RX3 44 "HatReservations$Hall" "time" "I", Cond.fieldLink RX3 47 "HatReservations$Hall" "swept" "I"]
def wsX4_stepBack_r2 : List Cond := [Cond.fieldLink RX3 50 "HatReservations$Hall" "lapsed" "I", Cond.fieldLink RX3 53 "HatReservations$Hall" "taken" "I", Cond.fieldLink RX3 56 "HatReservations$Hall" "won" "I"]
def wsX4_stepBack : List Cond := .code yX4_stepBack cX4_stepBack 2 (some .int) :: ((wsX4_stepBack_r1 ++ wsX4_stepBack_r2) ++ wsX40 ++ wsX30)
def wsX4_forget : List Cond := .code yX4_forget cX4_forget 1 none :: ([.fieldLink RX4 21 "HatReservations$History" "count" "I"] ++ wsX40)
def wsX5_init_r1 : List Cond := [Cond.methodLink RX5 1 objectInit, Cond.instanceMethod objectInit, Cond.code objectInit ⟨#[0xb1]⟩ 1 none, Cond.classLink RX5 7 RX3, Cond.instantiable RX3 15, Cond.initialized RX3, Cond.fieldLink RX5 10 "HatReservations" "hall" "LHatReservations$Hall;", Cond.fieldLink RX5 16 "HatReservations" "snapshot" "LHatReservations$Hall;", Cond.classLink RX5 19 RX4, Cond.instantiable RX4 3, Cond.initialized RX4, Cond.fieldLink RX5 22 "HatReservations" "history" "LHatReservations$History;", Cond.classLink RX5 26 RX2, Cond.instantiable RX2 7, Cond.initialized RX2, Cond.fieldLink RX5 29 "HatReservations" "commandText" "LHatReservations$CommandText;", Cond.arrayClass .char, Cond.fieldLink RX5 33 "HatReservations" "line" "[C", Cond.fieldLink RX5 37 "HatReservations" "lineLength" "I", Cond.fieldLink RX5 41 "HatReservations" "hasSnapshot" "Z", Cond.fieldLink RX5 45 "HatReservations" "lastErrorPosition" "I", Cond.fieldLink RX5 48 "HatReservations" "lastFailedCommand" "I", Cond.fieldLink RX5 51 "HatReservations" "lastFailedException" "I", Cond.methodLink RX5 9 yX3_init]
def wsX5_init_r2 : List Cond := [Cond.instanceMethod yX3_init, Cond.code yX3_init cX3_init 2 none, Cond.methodLink RX3 3 objectInit, Cond.arrayClass .int, Cond.fieldLink RX3 9 "HatReservations$Hall" "feathers" "[I", Cond.fieldLink RX3 15 "HatReservations$Hall" "brims" "[I", Cond.fieldLink RX3 18 "HatReservations$Hall" "hatChairs" "[I", Cond.fieldLink RX3 21 "HatReservations$Hall" "touchTimes" "[I", Cond.arrayClass .long, Cond.fieldLink RX3 24 "HatReservations$Hall" "covers" "[J", Cond.fieldLink RX3 28 "HatReservations$Hall" "coatChairs" "[I", Cond.fieldLink RX3 31 "HatReservations$Hall" "coatPositions" "[I", Cond.fieldLink RX3 34 "HatReservations$Hall" "coatOrders" "[I", Cond.fieldLink RX3 37 "HatReservations$Hall" "coatsEverLeft" "I", Cond.fieldLink RX3 41 "HatReservations$Hall" "guests" "I", Cond.fieldLink RX3 44 "HatReservations$Hall" "time" "I", Cond.fieldLink RX3 47 "HatReservations$Hall" "swept" "I", Cond.fieldLink RX3 50 "HatReservations$Hall" "lapsed" "I", Cond.fieldLink RX3 53 "HatReservations$Hall" "taken" "I", Cond.fieldLink RX3 56 "HatReservations$Hall" "won" "I", Cond.methodLink RX5 21 yX4_init, Cond.instanceMethod yX4_init, Cond.code yX4_init cX4_init 2 none, Cond.methodLink RX4 3 objectInit]
def wsX5_init_r3 : List Cond := [Cond.classLink RX4 11 RX3, Cond.fieldLink RX4 13 "HatReservations$History" "halls" "[LHatReservations$Hall;", Cond.fieldLink RX4 17 "HatReservations$History" "spare" "I", Cond.fieldLink RX4 21 "HatReservations$History" "count" "I", Cond.methodLink RX4 24 yX3_init, Cond.methodLink RX5 28 yX2_init, Cond.instanceMethod yX2_init, Cond.code yX2_init cX2_init 2 none, Cond.methodLink RX2 3 objectInit, Cond.fieldLink RX2 9 "HatReservations$CommandText" "characters" "[C", Cond.fieldLink RX2 15 "HatReservations$CommandText" "length" "I", Cond.classLink RX2 19 RX1, Cond.fieldLink RX2 21 "HatReservations$CommandText" "commands" "[LHatReservations$Command;", Cond.fieldLink RX2 25 "HatReservations$CommandText" "firsts" "[I", Cond.fieldLink RX2 29 "HatReservations$CommandText" "seconds" "[I", Cond.fieldLink RX2 32 "HatReservations$CommandText" "commandCount" "I", Cond.fieldLink RX2 35 "HatReservations$CommandText" "position" "I", Cond.fieldLink RX2 38 "HatReservations$Command" "GUEST" "LHatReservations$Command;"]
def wsX5_init : List Cond := .code yX5_init cX5_init 1 none :: ((wsX5_init_r1 ++ (wsX5_init_r2 ++ wsX5_init_r3)) ++ wsX30 ++ wsX50 ++ wsX40 ++ wsX20 ++ (vx_atM "java/lang/ArrayIndexOutOfBoundsException" ["java/lang/IndexOutOfBoundsException", "java/lang/RuntimeException", "java/lang/Exception"]).filter goodWord)
def wsX5_addGuest_r1 : List Cond := [Cond.classLink RX5 58 "java/lang/IllegalArgumentException", Cond.initialized "java/lang/IllegalArgumentException", Cond.classLink RX5 65 "java/lang/IllegalStateException", Cond.initialized "java/lang/IllegalStateException", Cond.fieldLink RX5 10 "HatReservations" "hall" "LHatReservations$Hall;", Cond.fieldLink RX5 22 "HatReservations" "history" "LHatReservations$History;", Cond.methodLink RX5 54 yX3_refusalOfGuest, Cond.instanceMethod yX3_refusalOfGuest, Cond.selects RX3 yX3_refusalOfGuest yX3_refusalOfGuest, Cond.initialized RX3, Cond.code yX3_refusalOfGuest cX3_refusalOfGuest 3 (some .int), Cond.fieldLink RX3 41 "HatReservations$Hall" "guests" "I", Cond.methodLink RX5 70 yX4_remember, Cond.instanceMethod yX4_remember, Cond.selects RX4 yX4_remember yX4_remember, Cond.initialized RX4, Cond.code yX4_remember cX4_remember 2 none, Cond.methodLink RX4 25 yX4_prepare, Cond.instanceMethod yX4_prepare, Cond.selects RX4 yX4_prepare yX4_prepare, Cond.code yX4_prepare cX4_prepare 2 none, Cond.fieldLink RX4 13 "HatReservations$History" "halls" "[LHatReservations$Hall;", Cond.fieldLink RX4 17 "HatReservations$History" "spare" "I", Cond.methodLink RX4 32 yX3_become]
def wsX5_addGuest_r2 : List Cond := [Cond.instanceMethod yX3_become, Cond.selects RX3 yX3_become yX3_become, Cond.code yX3_become cX3_become 2 none, Cond.fieldLink RX3 9 "HatReservations$Hall" "feathers" "[I", Cond.methodLink RX3 59 arraycopyName, Cond.native arraycopyName, Cond.static arraycopyName, Cond.initialized "java/lang/System", Cond.fieldLink RX3 15 "HatReservations$Hall" "brims" "[I", Cond.fieldLink RX3 18 "HatReservations$Hall" "hatChairs" "[I", Cond.fieldLink RX3 21 "HatReservations$Hall" "touchTimes" "[I", Cond.fieldLink RX3 24 "HatReservations$Hall" "covers" "[J", Cond.fieldLink RX3 28 "HatReservations$Hall" "coatChairs" "[I", Cond.fieldLink RX3 31 "HatReservations$Hall" "coatPositions" "[I", Cond.fieldLink RX3 34 "HatReservations$Hall" "coatOrders" "[I", Cond.fieldLink RX3 37 "HatReservations$Hall" "coatsEverLeft" "I", Cond.fieldLink RX3 44 "HatReservations$Hall" "time" "I", Cond.fieldLink RX3 47 "HatReservations$Hall" "swept" "I", Cond.fieldLink RX3 50 "HatReservations$Hall" "lapsed" "I", Cond.fieldLink RX3 53 "HatReservations$Hall" "taken" "I", Cond.fieldLink RX3 56 "HatReservations$Hall" "won" "I", Cond.methodLink RX4 29 yX4_keep, Cond.instanceMethod yX4_keep, Cond.selects RX4 yX4_keep yX4_keep]
def wsX5_addGuest_r3 : List Cond := [Cond.code yX4_keep cX4_keep 1 none, Cond.fieldLink RX4 21 "HatReservations$History" "count" "I", Cond.methodLink RX4 35 Lib.Math.min.name, Cond.static Lib.Math.min.name, Cond.initialized "java/lang/Math", Cond.code Lib.Math.min.name Lib.Math.min.code 2 (some .int), Cond.methodLink RX5 74 yX3_welcome, Cond.instanceMethod yX3_welcome, Cond.selects RX3 yX3_welcome yX3_welcome, Cond.code yX3_welcome cX3_welcome 4 (some .int)]
def wsX5_addGuest : List Cond := .code yX5_addGuest cX5_addGuest 4 (some .int) :: ((wsX5_addGuest_r1 ++ (wsX5_addGuest_r2 ++ wsX5_addGuest_r3)) ++ wsX50 ++ wsX30 ++ wsX40 ++ (vx_atS RX5 62 "java/lang/IllegalArgumentException" ["java/lang/RuntimeException", "java/lang/Exception"]).filter goodWord ++ (vx_atS RX5 69 "java/lang/IllegalStateException" ["java/lang/RuntimeException", "java/lang/Exception"]).filter goodWord ++ (vx_atM "java/lang/ArrayIndexOutOfBoundsException" ["java/lang/IndexOutOfBoundsException", "java/lang/RuntimeException", "java/lang/Exception"]).filter goodWord)
def wsX5_giveFeather_r1 : List Cond := [Cond.classLink RX5 81 "java/lang/IndexOutOfBoundsException", Cond.initialized "java/lang/IndexOutOfBoundsException", Cond.classLink RX5 65 "java/lang/IllegalStateException", Cond.initialized "java/lang/IllegalStateException", Cond.fieldLink RX5 10 "HatReservations" "hall" "LHatReservations$Hall;", Cond.fieldLink RX5 22 "HatReservations" "history" "LHatReservations$History;", Cond.methodLink RX5 77 yX3_refusalOfFeather, Cond.instanceMethod yX3_refusalOfFeather, Cond.selects RX3 yX3_refusalOfFeather yX3_refusalOfFeather, Cond.initialized RX3, Cond.code yX3_refusalOfFeather cX3_refusalOfFeather 2 (some .int), Cond.fieldLink RX3 9 "HatReservations$Hall" "feathers" "[I", Cond.methodLink RX3 65 yX3_hasGuest, Cond.instanceMethod yX3_hasGuest, Cond.selects RX3 yX3_hasGuest yX3_hasGuest, Cond.code yX3_hasGuest cX3_hasGuest 2 (some .boolean), Cond.fieldLink RX3 41 "HatReservations$Hall" "guests" "I", Cond.methodLink RX5 70 yX4_remember, Cond.instanceMethod yX4_remember, Cond.selects RX4 yX4_remember yX4_remember, Cond.initialized RX4, Cond.code yX4_remember cX4_remember 2 none, Cond.methodLink RX4 25 yX4_prepare, Cond.instanceMethod yX4_prepare]
def wsX5_giveFeather_r2 : List Cond := [Cond.selects RX4 yX4_prepare yX4_prepare, Cond.code yX4_prepare cX4_prepare 2 none, Cond.fieldLink RX4 13 "HatReservations$History" "halls" "[LHatReservations$Hall;", Cond.fieldLink RX4 17 "HatReservations$History" "spare" "I", Cond.methodLink RX4 32 yX3_become, Cond.instanceMethod yX3_become, Cond.selects RX3 yX3_become yX3_become, Cond.code yX3_become cX3_become 2 none, Cond.methodLink RX3 59 arraycopyName, Cond.native arraycopyName, Cond.static arraycopyName, Cond.initialized "java/lang/System", Cond.fieldLink RX3 15 "HatReservations$Hall" "brims" "[I", Cond.fieldLink RX3 18 "HatReservations$Hall" "hatChairs" "[I", Cond.fieldLink RX3 21 "HatReservations$Hall" "touchTimes" "[I", Cond.fieldLink RX3 24 "HatReservations$Hall" "covers" "[J", Cond.fieldLink RX3 28 "HatReservations$Hall" "coatChairs" "[I", Cond.fieldLink RX3 31 "HatReservations$Hall" "coatPositions" "[I", Cond.fieldLink RX3 34 "HatReservations$Hall" "coatOrders" "[I", Cond.fieldLink RX3 37 "HatReservations$Hall" "coatsEverLeft" "I", Cond.fieldLink RX3 44 "HatReservations$Hall" "time" "I", Cond.fieldLink RX3 47 "HatReservations$Hall" "swept" "I", Cond.fieldLink RX3 50 "HatReservations$Hall" "lapsed" "I", Cond.fieldLink RX3 53 "HatReservations$Hall" "taken" "I"]
def wsX5_giveFeather_r3 : List Cond := [Cond.fieldLink RX3 56 "HatReservations$Hall" "won" "I", Cond.methodLink RX4 29 yX4_keep, Cond.instanceMethod yX4_keep, Cond.selects RX4 yX4_keep yX4_keep, Cond.code yX4_keep cX4_keep 1 none, Cond.fieldLink RX4 21 "HatReservations$History" "count" "I", Cond.methodLink RX4 35 Lib.Math.min.name, Cond.static Lib.Math.min.name, Cond.initialized "java/lang/Math", Cond.code Lib.Math.min.name Lib.Math.min.code 2 (some .int), Cond.methodLink RX5 88 yX3_gainFeather, Cond.instanceMethod yX3_gainFeather, Cond.selects RX3 yX3_gainFeather yX3_gainFeather, Cond.code yX3_gainFeather cX3_gainFeather 2 (some .int)]
def wsX5_giveFeather : List Cond := .code yX5_giveFeather cX5_giveFeather 3 (some .int) :: ((wsX5_giveFeather_r1 ++ (wsX5_giveFeather_r2 ++ wsX5_giveFeather_r3)) ++ wsX50 ++ wsX30 ++ wsX40 ++ (vx_atS RX5 85 "java/lang/IndexOutOfBoundsException" ["java/lang/RuntimeException", "java/lang/Exception"]).filter goodWord ++ (vx_atS RX5 69 "java/lang/IllegalStateException" ["java/lang/RuntimeException", "java/lang/Exception"]).filter goodWord ++ (vx_atM "java/lang/ArrayIndexOutOfBoundsException" ["java/lang/IndexOutOfBoundsException", "java/lang/RuntimeException", "java/lang/Exception"]).filter goodWord)
def wsX5_placeHat_r1 : List Cond := [Cond.classLink RX5 81 "java/lang/IndexOutOfBoundsException", Cond.initialized "java/lang/IndexOutOfBoundsException", Cond.classLink RX5 65 "java/lang/IllegalStateException", Cond.initialized "java/lang/IllegalStateException", Cond.classLink RX5 98 "java/lang/UnsupportedOperationException", Cond.initialized "java/lang/UnsupportedOperationException", Cond.fieldLink RX5 10 "HatReservations" "hall" "LHatReservations$Hall;", Cond.fieldLink RX5 22 "HatReservations" "history" "LHatReservations$History;", Cond.methodLink RX5 91 yX3_refusalOfHat, Cond.instanceMethod yX3_refusalOfHat, Cond.selects RX3 yX3_refusalOfHat yX3_refusalOfHat, Cond.initialized RX3, Cond.code yX3_refusalOfHat cX3_refusalOfHat 3 (some .int), Cond.methodLink RX3 65 yX3_hasGuest, Cond.instanceMethod yX3_hasGuest, Cond.selects RX3 yX3_hasGuest yX3_hasGuest, Cond.code yX3_hasGuest cX3_hasGuest 2 (some .boolean), Cond.fieldLink RX3 41 "HatReservations$Hall" "guests" "I", Cond.methodLink RX3 69 yX3_hasChair, Cond.static yX3_hasChair, Cond.code yX3_hasChair cX3_hasChair 1 (some .boolean), Cond.methodLink RX3 72 yX3_hatIsPlaced, Cond.instanceMethod yX3_hatIsPlaced, Cond.selects RX3 yX3_hatIsPlaced yX3_hatIsPlaced]
def wsX5_placeHat_r2 : List Cond := [Cond.code yX3_hatIsPlaced cX3_hatIsPlaced 2 (some .boolean), Cond.fieldLink RX3 18 "HatReservations$Hall" "hatChairs" "[I", Cond.methodLink RX3 75 yX3_covererAt, Cond.instanceMethod yX3_covererAt, Cond.selects RX3 yX3_covererAt yX3_covererAt, Cond.code yX3_covererAt cX3_covererAt 3 (some .int), Cond.fieldLink RX3 24 "HatReservations$Hall" "covers" "[J", Cond.methodLink RX5 70 yX4_remember, Cond.instanceMethod yX4_remember, Cond.selects RX4 yX4_remember yX4_remember, Cond.initialized RX4, Cond.code yX4_remember cX4_remember 2 none, Cond.methodLink RX4 25 yX4_prepare, Cond.instanceMethod yX4_prepare, Cond.selects RX4 yX4_prepare yX4_prepare, Cond.code yX4_prepare cX4_prepare 2 none, Cond.fieldLink RX4 13 "HatReservations$History" "halls" "[LHatReservations$Hall;", Cond.fieldLink RX4 17 "HatReservations$History" "spare" "I", Cond.methodLink RX4 32 yX3_become, Cond.instanceMethod yX3_become, Cond.selects RX3 yX3_become yX3_become, Cond.code yX3_become cX3_become 2 none, Cond.fieldLink RX3 9 "HatReservations$Hall" "feathers" "[I", Cond.methodLink RX3 59 arraycopyName]
def wsX5_placeHat_r3 : List Cond := [Cond.native arraycopyName, Cond.static arraycopyName, Cond.initialized "java/lang/System", Cond.fieldLink RX3 15 "HatReservations$Hall" "brims" "[I", Cond.fieldLink RX3 21 "HatReservations$Hall" "touchTimes" "[I", Cond.fieldLink RX3 28 "HatReservations$Hall" "coatChairs" "[I", Cond.fieldLink RX3 31 "HatReservations$Hall" "coatPositions" "[I", Cond.fieldLink RX3 34 "HatReservations$Hall" "coatOrders" "[I", Cond.fieldLink RX3 37 "HatReservations$Hall" "coatsEverLeft" "I", Cond.fieldLink RX3 44 "HatReservations$Hall" "time" "I", Cond.fieldLink RX3 47 "HatReservations$Hall" "swept" "I", Cond.fieldLink RX3 50 "HatReservations$Hall" "lapsed" "I", Cond.fieldLink RX3 53 "HatReservations$Hall" "taken" "I", Cond.fieldLink RX3 56 "HatReservations$Hall" "won" "I", Cond.methodLink RX4 29 yX4_keep, Cond.instanceMethod yX4_keep, Cond.selects RX4 yX4_keep yX4_keep, Cond.code yX4_keep cX4_keep 1 none, Cond.fieldLink RX4 21 "HatReservations$History" "count" "I", Cond.methodLink RX4 35 Lib.Math.min.name, Cond.static Lib.Math.min.name, Cond.initialized "java/lang/Math", Cond.code Lib.Math.min.name Lib.Math.min.code 2 (some .int), Cond.methodLink RX5 103 yX3_putHat]
def wsX5_placeHat_r4 : List Cond := [Cond.instanceMethod yX3_putHat, Cond.selects RX3 yX3_putHat yX3_putHat, Cond.code yX3_putHat cX3_putHat 5 (some .int), Cond.methodLink RX3 91 yX3_coveredChairs, Cond.instanceMethod yX3_coveredChairs, Cond.selects RX3 yX3_coveredChairs yX3_coveredChairs, Cond.code yX3_coveredChairs cX3_coveredChairs 4 (some .long), Cond.methodLink RX3 95 yX3_reach, Cond.static yX3_reach, Cond.code yX3_reach cX3_reach 12 (some .long), Cond.methodLink RX3 82 yJ13_bitCount_95d88, Cond.static yJ13_bitCount_95d88, Cond.initialized RJ13, Cond.code yJ13_bitCount_95d88 cJ13_bitCount_95d88 2 (some .int), Cond.constantLong RJ13 314 (6148914691236517205), Cond.constantLong RJ13 316 (3689348814741910323), Cond.constantLong RJ13 318 (1085102592571150095)]
def wsX5_placeHat : List Cond := .code yX5_placeHat cX5_placeHat 4 (some .int) :: ((wsX5_placeHat_r1 ++ (wsX5_placeHat_r2 ++ (wsX5_placeHat_r3 ++ wsX5_placeHat_r4))) ++ wsX50 ++ wsX30 ++ wsX40 ++ (vx_atS RX5 85 "java/lang/IndexOutOfBoundsException" ["java/lang/RuntimeException", "java/lang/Exception"]).filter goodWord ++ (vx_atS RX5 69 "java/lang/IllegalStateException" ["java/lang/RuntimeException", "java/lang/Exception"]).filter goodWord ++ (vx_atS RX5 102 "java/lang/UnsupportedOperationException" ["java/lang/RuntimeException", "java/lang/Exception"]).filter goodWord ++ (vx_atM "java/lang/ArrayIndexOutOfBoundsException" ["java/lang/IndexOutOfBoundsException", "java/lang/RuntimeException", "java/lang/Exception"]).filter goodWord)
def wsX5_requirePlacedHat : List Cond := .code yX5_requirePlacedHat cX5_requirePlacedHat 3 none :: ([.classLink RX5 81 "java/lang/IndexOutOfBoundsException", .initialized "java/lang/IndexOutOfBoundsException", .classLink RX5 170 "java/util/NoSuchElementException", .initialized "java/util/NoSuchElementException", .fieldLink RX5 10 "HatReservations" "hall" "LHatReservations$Hall;", .methodLink RX5 359 yX3_refusalWithoutHat, .instanceMethod yX3_refusalWithoutHat, .selects RX3 yX3_refusalWithoutHat yX3_refusalWithoutHat, .initialized RX3, .code yX3_refusalWithoutHat cX3_refusalWithoutHat 2 (some .int), .methodLink RX3 65 yX3_hasGuest, .instanceMethod yX3_hasGuest, .selects RX3 yX3_hasGuest yX3_hasGuest, .code yX3_hasGuest cX3_hasGuest 2 (some .boolean), .fieldLink RX3 41 "HatReservations$Hall" "guests" "I", .methodLink RX3 72 yX3_hatIsPlaced, .instanceMethod yX3_hatIsPlaced, .selects RX3 yX3_hatIsPlaced yX3_hatIsPlaced, .code yX3_hatIsPlaced cX3_hatIsPlaced 2 (some .boolean), .fieldLink RX3 18 "HatReservations$Hall" "hatChairs" "[I"] ++ wsX50 ++ wsX30 ++ (vx_atS RX5 85 "java/lang/IndexOutOfBoundsException" ["java/lang/RuntimeException", "java/lang/Exception"]).filter goodWord ++ (vx_atS RX5 174 "java/util/NoSuchElementException" ["java/lang/RuntimeException", "java/lang/Exception"]).filter goodWord ++ (vx_atM "java/lang/ArrayIndexOutOfBoundsException" ["java/lang/IndexOutOfBoundsException", "java/lang/RuntimeException", "java/lang/Exception"]).filter goodWord)
def wsX5_removeHat_r1 : List Cond := [Cond.fieldLink RX5 22 "HatReservations" "history" "LHatReservations$History;", Cond.fieldLink RX5 10 "HatReservations" "hall" "LHatReservations$Hall;", Cond.methodLink RX5 106 yX5_requirePlacedHat, Cond.instanceMethod yX5_requirePlacedHat, Cond.selects RX5 yX5_requirePlacedHat yX5_requirePlacedHat, Cond.initialized RX5, Cond.code yX5_requirePlacedHat cX5_requirePlacedHat 3 none, Cond.classLink RX5 81 "java/lang/IndexOutOfBoundsException", Cond.initialized "java/lang/IndexOutOfBoundsException", Cond.classLink RX5 170 "java/util/NoSuchElementException", Cond.initialized "java/util/NoSuchElementException", Cond.methodLink RX5 359 yX3_refusalWithoutHat, Cond.instanceMethod yX3_refusalWithoutHat, Cond.selects RX3 yX3_refusalWithoutHat yX3_refusalWithoutHat, Cond.initialized RX3, Cond.code yX3_refusalWithoutHat cX3_refusalWithoutHat 2 (some .int), Cond.methodLink RX3 65 yX3_hasGuest, Cond.instanceMethod yX3_hasGuest, Cond.selects RX3 yX3_hasGuest yX3_hasGuest, Cond.code yX3_hasGuest cX3_hasGuest 2 (some .boolean), Cond.fieldLink RX3 41 "HatReservations$Hall" "guests" "I", Cond.methodLink RX3 72 yX3_hatIsPlaced, Cond.instanceMethod yX3_hatIsPlaced, Cond.selects RX3 yX3_hatIsPlaced yX3_hatIsPlaced]
def wsX5_removeHat_r2 : List Cond := [Cond.code yX3_hatIsPlaced cX3_hatIsPlaced 2 (some .boolean), Cond.fieldLink RX3 18 "HatReservations$Hall" "hatChairs" "[I", Cond.methodLink RX5 70 yX4_remember, Cond.instanceMethod yX4_remember, Cond.selects RX4 yX4_remember yX4_remember, Cond.initialized RX4, Cond.code yX4_remember cX4_remember 2 none, Cond.methodLink RX4 25 yX4_prepare, Cond.instanceMethod yX4_prepare, Cond.selects RX4 yX4_prepare yX4_prepare, Cond.code yX4_prepare cX4_prepare 2 none, Cond.fieldLink RX4 13 "HatReservations$History" "halls" "[LHatReservations$Hall;", Cond.fieldLink RX4 17 "HatReservations$History" "spare" "I", Cond.methodLink RX4 32 yX3_become, Cond.instanceMethod yX3_become, Cond.selects RX3 yX3_become yX3_become, Cond.code yX3_become cX3_become 2 none, Cond.fieldLink RX3 9 "HatReservations$Hall" "feathers" "[I", Cond.methodLink RX3 59 arraycopyName, Cond.native arraycopyName, Cond.static arraycopyName, Cond.initialized "java/lang/System", Cond.fieldLink RX3 15 "HatReservations$Hall" "brims" "[I", Cond.fieldLink RX3 21 "HatReservations$Hall" "touchTimes" "[I"]
def wsX5_removeHat_r3 : List Cond := [Cond.fieldLink RX3 24 "HatReservations$Hall" "covers" "[J", Cond.fieldLink RX3 28 "HatReservations$Hall" "coatChairs" "[I", Cond.fieldLink RX3 31 "HatReservations$Hall" "coatPositions" "[I", Cond.fieldLink RX3 34 "HatReservations$Hall" "coatOrders" "[I", Cond.fieldLink RX3 37 "HatReservations$Hall" "coatsEverLeft" "I", Cond.fieldLink RX3 44 "HatReservations$Hall" "time" "I", Cond.fieldLink RX3 47 "HatReservations$Hall" "swept" "I", Cond.fieldLink RX3 50 "HatReservations$Hall" "lapsed" "I", Cond.fieldLink RX3 53 "HatReservations$Hall" "taken" "I", Cond.fieldLink RX3 56 "HatReservations$Hall" "won" "I", Cond.methodLink RX4 29 yX4_keep, Cond.instanceMethod yX4_keep, Cond.selects RX4 yX4_keep yX4_keep, Cond.code yX4_keep cX4_keep 1 none, Cond.fieldLink RX4 21 "HatReservations$History" "count" "I", Cond.methodLink RX4 35 Lib.Math.min.name, Cond.static Lib.Math.min.name, Cond.initialized "java/lang/Math", Cond.code Lib.Math.min.name Lib.Math.min.code 2 (some .int), Cond.methodLink RX5 110 yX3_giveChairsBack, Cond.instanceMethod yX3_giveChairsBack, Cond.selects RX3 yX3_giveChairsBack yX3_giveChairsBack, Cond.code yX3_giveChairsBack cX3_giveChairsBack 4 (some .int), Cond.methodLink RX3 99 yX3_liftHat]
def wsX5_removeHat_r4 : List Cond := [Cond.instanceMethod yX3_liftHat, Cond.selects RX3 yX3_liftHat yX3_liftHat, Cond.code yX3_liftHat cX3_liftHat 4 (some .long), Cond.methodLink RX3 103 yX3_offerChairs, Cond.instanceMethod yX3_offerChairs, Cond.selects RX3 yX3_offerChairs yX3_offerChairs, Cond.code yX3_offerChairs cX3_offerChairs 4 none, Cond.methodLink RX3 75 yX3_covererAt, Cond.instanceMethod yX3_covererAt, Cond.selects RX3 yX3_covererAt yX3_covererAt, Cond.code yX3_covererAt cX3_covererAt 3 (some .int), Cond.methodLink RX3 111 yX3_offerChair, Cond.instanceMethod yX3_offerChair, Cond.selects RX3 yX3_offerChair yX3_offerChair, Cond.code yX3_offerChair cX3_offerChair 4 none, Cond.methodLink RX3 107 yX3_ownerAt, Cond.instanceMethod yX3_ownerAt, Cond.selects RX3 yX3_ownerAt yX3_ownerAt, Cond.code yX3_ownerAt cX3_ownerAt 4 (some .int), Cond.methodLink RX3 115 yX3_pullCoat, Cond.instanceMethod yX3_pullCoat, Cond.selects RX3 yX3_pullCoat yX3_pullCoat, Cond.code yX3_pullCoat cX3_pullCoat 4 (some .int), Cond.methodLink RX3 118 yX3_putHat]
def wsX5_removeHat_r5 : List Cond := [Cond.instanceMethod yX3_putHat, Cond.selects RX3 yX3_putHat yX3_putHat, Cond.code yX3_putHat cX3_putHat 5 (some .int), Cond.methodLink RX3 91 yX3_coveredChairs, Cond.instanceMethod yX3_coveredChairs, Cond.selects RX3 yX3_coveredChairs yX3_coveredChairs, Cond.code yX3_coveredChairs cX3_coveredChairs 4 (some .long), Cond.methodLink RX3 95 yX3_reach, Cond.static yX3_reach, Cond.code yX3_reach cX3_reach 12 (some .long), Cond.methodLink RX3 82 yJ13_bitCount_95d88, Cond.static yJ13_bitCount_95d88, Cond.initialized RJ13, Cond.code yJ13_bitCount_95d88 cJ13_bitCount_95d88 2 (some .int), Cond.constantLong RJ13 314 (6148914691236517205), Cond.constantLong RJ13 316 (3689348814741910323), Cond.constantLong RJ13 318 (1085102592571150095)]
def wsX5_removeHat : List Cond := .code yX5_removeHat cX5_removeHat 2 (some .int) :: ((wsX5_removeHat_r1 ++ (wsX5_removeHat_r2 ++ (wsX5_removeHat_r3 ++ (wsX5_removeHat_r4 ++ wsX5_removeHat_r5)))) ++ wsX50 ++ wsX30 ++ wsX40 ++ (vx_atS RX5 85 "java/lang/IndexOutOfBoundsException" ["java/lang/RuntimeException", "java/lang/Exception"]).filter goodWord ++ (vx_atS RX5 174 "java/util/NoSuchElementException" ["java/lang/RuntimeException", "java/lang/Exception"]).filter goodWord ++ (vx_atM "java/lang/ArrayIndexOutOfBoundsException" ["java/lang/IndexOutOfBoundsException", "java/lang/RuntimeException", "java/lang/Exception"]).filter goodWord)
def wsX5_touchHat_r1 : List Cond := [Cond.fieldLink RX5 22 "HatReservations" "history" "LHatReservations$History;", Cond.fieldLink RX5 10 "HatReservations" "hall" "LHatReservations$Hall;", Cond.methodLink RX5 106 yX5_requirePlacedHat, Cond.instanceMethod yX5_requirePlacedHat, Cond.selects RX5 yX5_requirePlacedHat yX5_requirePlacedHat, Cond.initialized RX5, Cond.code yX5_requirePlacedHat cX5_requirePlacedHat 3 none, Cond.classLink RX5 81 "java/lang/IndexOutOfBoundsException", Cond.initialized "java/lang/IndexOutOfBoundsException", Cond.classLink RX5 170 "java/util/NoSuchElementException", Cond.initialized "java/util/NoSuchElementException", Cond.methodLink RX5 359 yX3_refusalWithoutHat, Cond.instanceMethod yX3_refusalWithoutHat, Cond.selects RX3 yX3_refusalWithoutHat yX3_refusalWithoutHat, Cond.initialized RX3, Cond.code yX3_refusalWithoutHat cX3_refusalWithoutHat 2 (some .int), Cond.methodLink RX3 65 yX3_hasGuest, Cond.instanceMethod yX3_hasGuest, Cond.selects RX3 yX3_hasGuest yX3_hasGuest, Cond.code yX3_hasGuest cX3_hasGuest 2 (some .boolean), Cond.fieldLink RX3 41 "HatReservations$Hall" "guests" "I", Cond.methodLink RX3 72 yX3_hatIsPlaced, Cond.instanceMethod yX3_hatIsPlaced, Cond.selects RX3 yX3_hatIsPlaced yX3_hatIsPlaced]
def wsX5_touchHat_r2 : List Cond := [Cond.code yX3_hatIsPlaced cX3_hatIsPlaced 2 (some .boolean), Cond.fieldLink RX3 18 "HatReservations$Hall" "hatChairs" "[I", Cond.methodLink RX5 70 yX4_remember, Cond.instanceMethod yX4_remember, Cond.selects RX4 yX4_remember yX4_remember, Cond.initialized RX4, Cond.code yX4_remember cX4_remember 2 none, Cond.methodLink RX4 25 yX4_prepare, Cond.instanceMethod yX4_prepare, Cond.selects RX4 yX4_prepare yX4_prepare, Cond.code yX4_prepare cX4_prepare 2 none, Cond.fieldLink RX4 13 "HatReservations$History" "halls" "[LHatReservations$Hall;", Cond.fieldLink RX4 17 "HatReservations$History" "spare" "I", Cond.methodLink RX4 32 yX3_become, Cond.instanceMethod yX3_become, Cond.selects RX3 yX3_become yX3_become, Cond.code yX3_become cX3_become 2 none, Cond.fieldLink RX3 9 "HatReservations$Hall" "feathers" "[I", Cond.methodLink RX3 59 arraycopyName, Cond.native arraycopyName, Cond.static arraycopyName, Cond.initialized "java/lang/System", Cond.fieldLink RX3 15 "HatReservations$Hall" "brims" "[I", Cond.fieldLink RX3 21 "HatReservations$Hall" "touchTimes" "[I"]
def wsX5_touchHat_r3 : List Cond := [Cond.fieldLink RX3 24 "HatReservations$Hall" "covers" "[J", Cond.fieldLink RX3 28 "HatReservations$Hall" "coatChairs" "[I", Cond.fieldLink RX3 31 "HatReservations$Hall" "coatPositions" "[I", Cond.fieldLink RX3 34 "HatReservations$Hall" "coatOrders" "[I", Cond.fieldLink RX3 37 "HatReservations$Hall" "coatsEverLeft" "I", Cond.fieldLink RX3 44 "HatReservations$Hall" "time" "I", Cond.fieldLink RX3 47 "HatReservations$Hall" "swept" "I", Cond.fieldLink RX3 50 "HatReservations$Hall" "lapsed" "I", Cond.fieldLink RX3 53 "HatReservations$Hall" "taken" "I", Cond.fieldLink RX3 56 "HatReservations$Hall" "won" "I", Cond.methodLink RX4 29 yX4_keep, Cond.instanceMethod yX4_keep, Cond.selects RX4 yX4_keep yX4_keep, Cond.code yX4_keep cX4_keep 1 none, Cond.fieldLink RX4 21 "HatReservations$History" "count" "I", Cond.methodLink RX4 35 Lib.Math.min.name, Cond.static Lib.Math.min.name, Cond.initialized "java/lang/Math", Cond.code Lib.Math.min.name Lib.Math.min.code 2 (some .int), Cond.methodLink RX5 113 yX3_startIdleTimeAgain, Cond.instanceMethod yX3_startIdleTimeAgain, Cond.selects RX3 yX3_startIdleTimeAgain yX3_startIdleTimeAgain, Cond.code yX3_startIdleTimeAgain cX3_startIdleTimeAgain 3 (some .int), Cond.methodLink RX3 88 yX3_idleTime]
def wsX5_touchHat_r4 : List Cond := [Cond.instanceMethod yX3_idleTime, Cond.selects RX3 yX3_idleTime yX3_idleTime, Cond.code yX3_idleTime cX3_idleTime 2 (some .int)]
def wsX5_touchHat : List Cond := .code yX5_touchHat cX5_touchHat 2 (some .int) :: ((wsX5_touchHat_r1 ++ (wsX5_touchHat_r2 ++ (wsX5_touchHat_r3 ++ wsX5_touchHat_r4))) ++ wsX50 ++ wsX30 ++ wsX40 ++ (vx_atS RX5 85 "java/lang/IndexOutOfBoundsException" ["java/lang/RuntimeException", "java/lang/Exception"]).filter goodWord ++ (vx_atS RX5 174 "java/util/NoSuchElementException" ["java/lang/RuntimeException", "java/lang/Exception"]).filter goodWord ++ (vx_atM "java/lang/ArrayIndexOutOfBoundsException" ["java/lang/IndexOutOfBoundsException", "java/lang/RuntimeException", "java/lang/Exception"]).filter goodWord)
def wsX5_guestCount : List Cond := .code yX5_guestCount cX5_guestCount 1 (some .int) :: ([.fieldLink RX5 10 "HatReservations" "hall" "LHatReservations$Hall;", .fieldLink RX5 116 "HatReservations$Hall" "guests" "I"] ++ wsX50 ++ wsX30)
def wsX5_requireGuest : List Cond := .code yX5_requireGuest cX5_requireGuest 2 none :: ([.classLink RX5 81 "java/lang/IndexOutOfBoundsException", .initialized "java/lang/IndexOutOfBoundsException", .fieldLink RX5 10 "HatReservations" "hall" "LHatReservations$Hall;", .methodLink RX5 356 yX3_hasGuest, .instanceMethod yX3_hasGuest, .selects RX3 yX3_hasGuest yX3_hasGuest, .initialized RX3, .code yX3_hasGuest cX3_hasGuest 2 (some .boolean), .fieldLink RX3 41 "HatReservations$Hall" "guests" "I"] ++ wsX50 ++ wsX30 ++ (vx_atS RX5 85 "java/lang/IndexOutOfBoundsException" ["java/lang/RuntimeException", "java/lang/Exception"]).filter goodWord)
def wsX5_feathers : List Cond := .code yX5_feathers cX5_feathers 2 (some .int) :: ([.fieldLink RX5 10 "HatReservations" "hall" "LHatReservations$Hall;", .fieldLink RX5 122 "HatReservations$Hall" "feathers" "[I", .methodLink RX5 119 yX5_requireGuest, .instanceMethod yX5_requireGuest, .selects RX5 yX5_requireGuest yX5_requireGuest, .initialized RX5, .code yX5_requireGuest cX5_requireGuest 2 none, .classLink RX5 81 "java/lang/IndexOutOfBoundsException", .initialized "java/lang/IndexOutOfBoundsException", .methodLink RX5 356 yX3_hasGuest, .instanceMethod yX3_hasGuest, .selects RX3 yX3_hasGuest yX3_hasGuest, .initialized RX3, .code yX3_hasGuest cX3_hasGuest 2 (some .boolean), .fieldLink RX3 41 "HatReservations$Hall" "guests" "I"] ++ wsX50 ++ wsX30 ++ (vx_atM "java/lang/ArrayIndexOutOfBoundsException" ["java/lang/IndexOutOfBoundsException", "java/lang/RuntimeException", "java/lang/Exception"]).filter goodWord ++ (vx_atS RX5 85 "java/lang/IndexOutOfBoundsException" ["java/lang/RuntimeException", "java/lang/Exception"]).filter goodWord)
def wsX5_brim : List Cond := .code yX5_brim cX5_brim 2 (some .int) :: ([.fieldLink RX5 10 "HatReservations" "hall" "LHatReservations$Hall;", .fieldLink RX5 126 "HatReservations$Hall" "brims" "[I", .methodLink RX5 119 yX5_requireGuest, .instanceMethod yX5_requireGuest, .selects RX5 yX5_requireGuest yX5_requireGuest, .initialized RX5, .code yX5_requireGuest cX5_requireGuest 2 none, .classLink RX5 81 "java/lang/IndexOutOfBoundsException", .initialized "java/lang/IndexOutOfBoundsException", .methodLink RX5 356 yX3_hasGuest, .instanceMethod yX3_hasGuest, .selects RX3 yX3_hasGuest yX3_hasGuest, .initialized RX3, .code yX3_hasGuest cX3_hasGuest 2 (some .boolean), .fieldLink RX3 41 "HatReservations$Hall" "guests" "I"] ++ wsX50 ++ wsX30 ++ (vx_atM "java/lang/ArrayIndexOutOfBoundsException" ["java/lang/IndexOutOfBoundsException", "java/lang/RuntimeException", "java/lang/Exception"]).filter goodWord ++ (vx_atS RX5 85 "java/lang/IndexOutOfBoundsException" ["java/lang/RuntimeException", "java/lang/Exception"]).filter goodWord)
def wsX5_isPlaced : List Cond := .code yX5_isPlaced cX5_isPlaced 2 (some .boolean) :: ([.fieldLink RX5 10 "HatReservations" "hall" "LHatReservations$Hall;", .methodLink RX5 119 yX5_requireGuest, .instanceMethod yX5_requireGuest, .selects RX5 yX5_requireGuest yX5_requireGuest, .initialized RX5, .code yX5_requireGuest cX5_requireGuest 2 none, .classLink RX5 81 "java/lang/IndexOutOfBoundsException", .initialized "java/lang/IndexOutOfBoundsException", .methodLink RX5 356 yX3_hasGuest, .instanceMethod yX3_hasGuest, .selects RX3 yX3_hasGuest yX3_hasGuest, .initialized RX3, .code yX3_hasGuest cX3_hasGuest 2 (some .boolean), .fieldLink RX3 41 "HatReservations$Hall" "guests" "I", .methodLink RX5 129 yX3_hatIsPlaced, .instanceMethod yX3_hatIsPlaced, .selects RX3 yX3_hatIsPlaced yX3_hatIsPlaced, .code yX3_hatIsPlaced cX3_hatIsPlaced 2 (some .boolean), .fieldLink RX3 18 "HatReservations$Hall" "hatChairs" "[I"] ++ wsX50 ++ wsX30 ++ (vx_atS RX5 85 "java/lang/IndexOutOfBoundsException" ["java/lang/RuntimeException", "java/lang/Exception"]).filter goodWord ++ (vx_atM "java/lang/ArrayIndexOutOfBoundsException" ["java/lang/IndexOutOfBoundsException", "java/lang/RuntimeException", "java/lang/Exception"]).filter goodWord)
def wsX5_hatChair_r1 : List Cond := [Cond.fieldLink RX5 10 "HatReservations" "hall" "LHatReservations$Hall;", Cond.fieldLink RX5 133 "HatReservations$Hall" "hatChairs" "[I", Cond.methodLink RX5 106 yX5_requirePlacedHat, Cond.instanceMethod yX5_requirePlacedHat, Cond.selects RX5 yX5_requirePlacedHat yX5_requirePlacedHat, Cond.initialized RX5, Cond.code yX5_requirePlacedHat cX5_requirePlacedHat 3 none, Cond.classLink RX5 81 "java/lang/IndexOutOfBoundsException", Cond.initialized "java/lang/IndexOutOfBoundsException", Cond.classLink RX5 170 "java/util/NoSuchElementException", Cond.initialized "java/util/NoSuchElementException", Cond.methodLink RX5 359 yX3_refusalWithoutHat, Cond.instanceMethod yX3_refusalWithoutHat, Cond.selects RX3 yX3_refusalWithoutHat yX3_refusalWithoutHat, Cond.initialized RX3, Cond.code yX3_refusalWithoutHat cX3_refusalWithoutHat 2 (some .int), Cond.methodLink RX3 65 yX3_hasGuest, Cond.instanceMethod yX3_hasGuest, Cond.selects RX3 yX3_hasGuest yX3_hasGuest, Cond.code yX3_hasGuest cX3_hasGuest 2 (some .boolean), Cond.fieldLink RX3 41 "HatReservations$Hall" "guests" "I", Cond.methodLink RX3 72 yX3_hatIsPlaced, Cond.instanceMethod yX3_hatIsPlaced, Cond.selects RX3 yX3_hatIsPlaced yX3_hatIsPlaced]
def wsX5_hatChair_r2 : List Cond := [Cond.code yX3_hatIsPlaced cX3_hatIsPlaced 2 (some .boolean), Cond.fieldLink RX3 18 "HatReservations$Hall" "hatChairs" "[I"]
def wsX5_hatChair : List Cond := .code yX5_hatChair cX5_hatChair 2 (some .int) :: ((wsX5_hatChair_r1 ++ wsX5_hatChair_r2) ++ wsX50 ++ wsX30 ++ (vx_atM "java/lang/ArrayIndexOutOfBoundsException" ["java/lang/IndexOutOfBoundsException", "java/lang/RuntimeException", "java/lang/Exception"]).filter goodWord ++ (vx_atS RX5 85 "java/lang/IndexOutOfBoundsException" ["java/lang/RuntimeException", "java/lang/Exception"]).filter goodWord ++ (vx_atS RX5 174 "java/util/NoSuchElementException" ["java/lang/RuntimeException", "java/lang/Exception"]).filter goodWord)
def wsX5_coverSize_r1 : List Cond := [Cond.fieldLink RX5 10 "HatReservations" "hall" "LHatReservations$Hall;", Cond.methodLink RX5 119 yX5_requireGuest, Cond.instanceMethod yX5_requireGuest, Cond.selects RX5 yX5_requireGuest yX5_requireGuest, Cond.initialized RX5, Cond.code yX5_requireGuest cX5_requireGuest 2 none, Cond.classLink RX5 81 "java/lang/IndexOutOfBoundsException", Cond.initialized "java/lang/IndexOutOfBoundsException", Cond.methodLink RX5 356 yX3_hasGuest, Cond.instanceMethod yX3_hasGuest, Cond.selects RX3 yX3_hasGuest yX3_hasGuest, Cond.initialized RX3, Cond.code yX3_hasGuest cX3_hasGuest 2 (some .boolean), Cond.fieldLink RX3 41 "HatReservations$Hall" "guests" "I", Cond.methodLink RX5 136 yX3_coverOf, Cond.instanceMethod yX3_coverOf, Cond.selects RX3 yX3_coverOf yX3_coverOf, Cond.code yX3_coverOf cX3_coverOf 2 (some .int), Cond.fieldLink RX3 24 "HatReservations$Hall" "covers" "[J", Cond.methodLink RX3 82 yJ13_bitCount_95d88, Cond.static yJ13_bitCount_95d88, Cond.initialized RJ13, Cond.code yJ13_bitCount_95d88 cJ13_bitCount_95d88 2 (some .int), Cond.constantLong RJ13 314 (6148914691236517205)]
def wsX5_coverSize_r2 : List Cond := [Cond.constantLong RJ13 316 (3689348814741910323), Cond.constantLong RJ13 318 (1085102592571150095)]
def wsX5_coverSize : List Cond := .code yX5_coverSize cX5_coverSize 2 (some .int) :: ((wsX5_coverSize_r1 ++ wsX5_coverSize_r2) ++ wsX50 ++ wsX30 ++ (vx_atS RX5 85 "java/lang/IndexOutOfBoundsException" ["java/lang/RuntimeException", "java/lang/Exception"]).filter goodWord ++ (vx_atM "java/lang/ArrayIndexOutOfBoundsException" ["java/lang/IndexOutOfBoundsException", "java/lang/RuntimeException", "java/lang/Exception"]).filter goodWord)
def wsX5_idleMinutes_r1 : List Cond := [Cond.fieldLink RX5 10 "HatReservations" "hall" "LHatReservations$Hall;", Cond.methodLink RX5 106 yX5_requirePlacedHat, Cond.instanceMethod yX5_requirePlacedHat, Cond.selects RX5 yX5_requirePlacedHat yX5_requirePlacedHat, Cond.initialized RX5, Cond.code yX5_requirePlacedHat cX5_requirePlacedHat 3 none, Cond.classLink RX5 81 "java/lang/IndexOutOfBoundsException", Cond.initialized "java/lang/IndexOutOfBoundsException", Cond.classLink RX5 170 "java/util/NoSuchElementException", Cond.initialized "java/util/NoSuchElementException", Cond.methodLink RX5 359 yX3_refusalWithoutHat, Cond.instanceMethod yX3_refusalWithoutHat, Cond.selects RX3 yX3_refusalWithoutHat yX3_refusalWithoutHat, Cond.initialized RX3, Cond.code yX3_refusalWithoutHat cX3_refusalWithoutHat 2 (some .int), Cond.methodLink RX3 65 yX3_hasGuest, Cond.instanceMethod yX3_hasGuest, Cond.selects RX3 yX3_hasGuest yX3_hasGuest, Cond.code yX3_hasGuest cX3_hasGuest 2 (some .boolean), Cond.fieldLink RX3 41 "HatReservations$Hall" "guests" "I", Cond.methodLink RX3 72 yX3_hatIsPlaced, Cond.instanceMethod yX3_hatIsPlaced, Cond.selects RX3 yX3_hatIsPlaced yX3_hatIsPlaced, Cond.code yX3_hatIsPlaced cX3_hatIsPlaced 2 (some .boolean)]
def wsX5_idleMinutes_r2 : List Cond := [Cond.fieldLink RX3 18 "HatReservations$Hall" "hatChairs" "[I", Cond.methodLink RX5 139 yX3_idleTime, Cond.instanceMethod yX3_idleTime, Cond.selects RX3 yX3_idleTime yX3_idleTime, Cond.code yX3_idleTime cX3_idleTime 2 (some .int), Cond.fieldLink RX3 44 "HatReservations$Hall" "time" "I", Cond.fieldLink RX3 21 "HatReservations$Hall" "touchTimes" "[I"]
def wsX5_idleMinutes : List Cond := .code yX5_idleMinutes cX5_idleMinutes 2 (some .int) :: ((wsX5_idleMinutes_r1 ++ wsX5_idleMinutes_r2) ++ wsX50 ++ wsX30 ++ (vx_atS RX5 85 "java/lang/IndexOutOfBoundsException" ["java/lang/RuntimeException", "java/lang/Exception"]).filter goodWord ++ (vx_atS RX5 174 "java/util/NoSuchElementException" ["java/lang/RuntimeException", "java/lang/Exception"]).filter goodWord ++ (vx_atM "java/lang/ArrayIndexOutOfBoundsException" ["java/lang/IndexOutOfBoundsException", "java/lang/RuntimeException", "java/lang/Exception"]).filter goodWord)
def wsX5_leaveCoat_r1 : List Cond := [Cond.classLink RX5 81 "java/lang/IndexOutOfBoundsException", Cond.initialized "java/lang/IndexOutOfBoundsException", Cond.classLink RX5 65 "java/lang/IllegalStateException", Cond.initialized "java/lang/IllegalStateException", Cond.classLink RX5 98 "java/lang/UnsupportedOperationException", Cond.initialized "java/lang/UnsupportedOperationException", Cond.fieldLink RX5 10 "HatReservations" "hall" "LHatReservations$Hall;", Cond.fieldLink RX5 22 "HatReservations" "history" "LHatReservations$History;", Cond.methodLink RX5 142 yX3_refusalOfCoat, Cond.instanceMethod yX3_refusalOfCoat, Cond.selects RX3 yX3_refusalOfCoat yX3_refusalOfCoat, Cond.initialized RX3, Cond.code yX3_refusalOfCoat cX3_refusalOfCoat 5 (some .int), Cond.fieldLink RX3 28 "HatReservations$Hall" "coatChairs" "[I", Cond.methodLink RX3 65 yX3_hasGuest, Cond.instanceMethod yX3_hasGuest, Cond.selects RX3 yX3_hasGuest yX3_hasGuest, Cond.code yX3_hasGuest cX3_hasGuest 2 (some .boolean), Cond.fieldLink RX3 41 "HatReservations$Hall" "guests" "I", Cond.methodLink RX3 69 yX3_hasChair, Cond.static yX3_hasChair, Cond.code yX3_hasChair cX3_hasChair 1 (some .boolean), Cond.methodLink RX3 75 yX3_covererAt, Cond.instanceMethod yX3_covererAt]
def wsX5_leaveCoat_r2 : List Cond := [Cond.selects RX3 yX3_covererAt yX3_covererAt, Cond.code yX3_covererAt cX3_covererAt 3 (some .int), Cond.fieldLink RX3 24 "HatReservations$Hall" "covers" "[J", Cond.methodLink RX3 79 yX3_coatsOn, Cond.instanceMethod yX3_coatsOn, Cond.selects RX3 yX3_coatsOn yX3_coatsOn, Cond.code yX3_coatsOn cX3_coatsOn 4 (some .int), Cond.methodLink RX5 70 yX4_remember, Cond.instanceMethod yX4_remember, Cond.selects RX4 yX4_remember yX4_remember, Cond.initialized RX4, Cond.code yX4_remember cX4_remember 2 none, Cond.methodLink RX4 25 yX4_prepare, Cond.instanceMethod yX4_prepare, Cond.selects RX4 yX4_prepare yX4_prepare, Cond.code yX4_prepare cX4_prepare 2 none, Cond.fieldLink RX4 13 "HatReservations$History" "halls" "[LHatReservations$Hall;", Cond.fieldLink RX4 17 "HatReservations$History" "spare" "I", Cond.methodLink RX4 32 yX3_become, Cond.instanceMethod yX3_become, Cond.selects RX3 yX3_become yX3_become, Cond.code yX3_become cX3_become 2 none, Cond.fieldLink RX3 9 "HatReservations$Hall" "feathers" "[I", Cond.methodLink RX3 59 arraycopyName]
def wsX5_leaveCoat_r3 : List Cond := [Cond.native arraycopyName, Cond.static arraycopyName, Cond.initialized "java/lang/System", Cond.fieldLink RX3 15 "HatReservations$Hall" "brims" "[I", Cond.fieldLink RX3 18 "HatReservations$Hall" "hatChairs" "[I", Cond.fieldLink RX3 21 "HatReservations$Hall" "touchTimes" "[I", Cond.fieldLink RX3 31 "HatReservations$Hall" "coatPositions" "[I", Cond.fieldLink RX3 34 "HatReservations$Hall" "coatOrders" "[I", Cond.fieldLink RX3 37 "HatReservations$Hall" "coatsEverLeft" "I", Cond.fieldLink RX3 44 "HatReservations$Hall" "time" "I", Cond.fieldLink RX3 47 "HatReservations$Hall" "swept" "I", Cond.fieldLink RX3 50 "HatReservations$Hall" "lapsed" "I", Cond.fieldLink RX3 53 "HatReservations$Hall" "taken" "I", Cond.fieldLink RX3 56 "HatReservations$Hall" "won" "I", Cond.methodLink RX4 29 yX4_keep, Cond.instanceMethod yX4_keep, Cond.selects RX4 yX4_keep yX4_keep, Cond.code yX4_keep cX4_keep 1 none, Cond.fieldLink RX4 21 "HatReservations$History" "count" "I", Cond.methodLink RX4 35 Lib.Math.min.name, Cond.static Lib.Math.min.name, Cond.initialized "java/lang/Math", Cond.code Lib.Math.min.name Lib.Math.min.code 2 (some .int), Cond.methodLink RX5 149 yX3_putCoat]
def wsX5_leaveCoat_r4 : List Cond := [Cond.instanceMethod yX3_putCoat, Cond.selects RX3 yX3_putCoat yX3_putCoat, Cond.code yX3_putCoat cX3_putCoat 4 (some .int)]
def wsX5_leaveCoat : List Cond := .code yX5_leaveCoat cX5_leaveCoat 4 (some .int) :: ((wsX5_leaveCoat_r1 ++ (wsX5_leaveCoat_r2 ++ (wsX5_leaveCoat_r3 ++ wsX5_leaveCoat_r4))) ++ wsX50 ++ wsX30 ++ wsX40 ++ (vx_atS RX5 85 "java/lang/IndexOutOfBoundsException" ["java/lang/RuntimeException", "java/lang/Exception"]).filter goodWord ++ (vx_atS RX5 69 "java/lang/IllegalStateException" ["java/lang/RuntimeException", "java/lang/Exception"]).filter goodWord ++ (vx_atS RX5 102 "java/lang/UnsupportedOperationException" ["java/lang/RuntimeException", "java/lang/Exception"]).filter goodWord ++ (vx_atM "java/lang/ArrayIndexOutOfBoundsException" ["java/lang/IndexOutOfBoundsException", "java/lang/RuntimeException", "java/lang/Exception"]).filter goodWord)
def wsX5_requireLeftCoat : List Cond := .code yX5_requireLeftCoat cX5_requireLeftCoat 3 none :: ([.classLink RX5 81 "java/lang/IndexOutOfBoundsException", .initialized "java/lang/IndexOutOfBoundsException", .classLink RX5 170 "java/util/NoSuchElementException", .initialized "java/util/NoSuchElementException", .fieldLink RX5 10 "HatReservations" "hall" "LHatReservations$Hall;", .methodLink RX5 364 yX3_refusalWithoutCoat, .instanceMethod yX3_refusalWithoutCoat, .selects RX3 yX3_refusalWithoutCoat yX3_refusalWithoutCoat, .initialized RX3, .code yX3_refusalWithoutCoat cX3_refusalWithoutCoat 2 (some .int), .fieldLink RX3 28 "HatReservations$Hall" "coatChairs" "[I", .methodLink RX3 65 yX3_hasGuest, .instanceMethod yX3_hasGuest, .selects RX3 yX3_hasGuest yX3_hasGuest, .code yX3_hasGuest cX3_hasGuest 2 (some .boolean), .fieldLink RX3 41 "HatReservations$Hall" "guests" "I"] ++ wsX50 ++ wsX30 ++ (vx_atS RX5 85 "java/lang/IndexOutOfBoundsException" ["java/lang/RuntimeException", "java/lang/Exception"]).filter goodWord ++ (vx_atS RX5 174 "java/util/NoSuchElementException" ["java/lang/RuntimeException", "java/lang/Exception"]).filter goodWord ++ (vx_atM "java/lang/ArrayIndexOutOfBoundsException" ["java/lang/IndexOutOfBoundsException", "java/lang/RuntimeException", "java/lang/Exception"]).filter goodWord)
def wsX5_takeCoat_r1 : List Cond := [Cond.fieldLink RX5 22 "HatReservations" "history" "LHatReservations$History;", Cond.fieldLink RX5 10 "HatReservations" "hall" "LHatReservations$Hall;", Cond.methodLink RX5 152 yX5_requireLeftCoat, Cond.instanceMethod yX5_requireLeftCoat, Cond.selects RX5 yX5_requireLeftCoat yX5_requireLeftCoat, Cond.initialized RX5, Cond.code yX5_requireLeftCoat cX5_requireLeftCoat 3 none, Cond.classLink RX5 81 "java/lang/IndexOutOfBoundsException", Cond.initialized "java/lang/IndexOutOfBoundsException", Cond.classLink RX5 170 "java/util/NoSuchElementException", Cond.initialized "java/util/NoSuchElementException", Cond.methodLink RX5 364 yX3_refusalWithoutCoat, Cond.instanceMethod yX3_refusalWithoutCoat, Cond.selects RX3 yX3_refusalWithoutCoat yX3_refusalWithoutCoat, Cond.initialized RX3, Cond.code yX3_refusalWithoutCoat cX3_refusalWithoutCoat 2 (some .int), Cond.fieldLink RX3 28 "HatReservations$Hall" "coatChairs" "[I", Cond.methodLink RX3 65 yX3_hasGuest, Cond.instanceMethod yX3_hasGuest, Cond.selects RX3 yX3_hasGuest yX3_hasGuest, Cond.code yX3_hasGuest cX3_hasGuest 2 (some .boolean), Cond.fieldLink RX3 41 "HatReservations$Hall" "guests" "I", Cond.methodLink RX5 70 yX4_remember, Cond.instanceMethod yX4_remember]
def wsX5_takeCoat_r2 : List Cond := [Cond.selects RX4 yX4_remember yX4_remember, Cond.initialized RX4, Cond.code yX4_remember cX4_remember 2 none, Cond.methodLink RX4 25 yX4_prepare, Cond.instanceMethod yX4_prepare, Cond.selects RX4 yX4_prepare yX4_prepare, Cond.code yX4_prepare cX4_prepare 2 none, Cond.fieldLink RX4 13 "HatReservations$History" "halls" "[LHatReservations$Hall;", Cond.fieldLink RX4 17 "HatReservations$History" "spare" "I", Cond.methodLink RX4 32 yX3_become, Cond.instanceMethod yX3_become, Cond.selects RX3 yX3_become yX3_become, Cond.code yX3_become cX3_become 2 none, Cond.fieldLink RX3 9 "HatReservations$Hall" "feathers" "[I", Cond.methodLink RX3 59 arraycopyName, Cond.native arraycopyName, Cond.static arraycopyName, Cond.initialized "java/lang/System", Cond.fieldLink RX3 15 "HatReservations$Hall" "brims" "[I", Cond.fieldLink RX3 18 "HatReservations$Hall" "hatChairs" "[I", Cond.fieldLink RX3 21 "HatReservations$Hall" "touchTimes" "[I", Cond.fieldLink RX3 24 "HatReservations$Hall" "covers" "[J", Cond.fieldLink RX3 31 "HatReservations$Hall" "coatPositions" "[I", Cond.fieldLink RX3 34 "HatReservations$Hall" "coatOrders" "[I"]
def wsX5_takeCoat_r3 : List Cond := [Cond.fieldLink RX3 37 "HatReservations$Hall" "coatsEverLeft" "I", Cond.fieldLink RX3 44 "HatReservations$Hall" "time" "I", Cond.fieldLink RX3 47 "HatReservations$Hall" "swept" "I", Cond.fieldLink RX3 50 "HatReservations$Hall" "lapsed" "I", Cond.fieldLink RX3 53 "HatReservations$Hall" "taken" "I", Cond.fieldLink RX3 56 "HatReservations$Hall" "won" "I", Cond.methodLink RX4 29 yX4_keep, Cond.instanceMethod yX4_keep, Cond.selects RX4 yX4_keep yX4_keep, Cond.code yX4_keep cX4_keep 1 none, Cond.fieldLink RX4 21 "HatReservations$History" "count" "I", Cond.methodLink RX4 35 Lib.Math.min.name, Cond.static Lib.Math.min.name, Cond.initialized "java/lang/Math", Cond.code Lib.Math.min.name Lib.Math.min.code 2 (some .int), Cond.methodLink RX5 155 yX3_pullCoat, Cond.instanceMethod yX3_pullCoat, Cond.selects RX3 yX3_pullCoat yX3_pullCoat, Cond.code yX3_pullCoat cX3_pullCoat 4 (some .int)]
def wsX5_takeCoat : List Cond := .code yX5_takeCoat cX5_takeCoat 2 (some .int) :: ((wsX5_takeCoat_r1 ++ (wsX5_takeCoat_r2 ++ wsX5_takeCoat_r3)) ++ wsX50 ++ wsX30 ++ wsX40 ++ (vx_atS RX5 85 "java/lang/IndexOutOfBoundsException" ["java/lang/RuntimeException", "java/lang/Exception"]).filter goodWord ++ (vx_atS RX5 174 "java/util/NoSuchElementException" ["java/lang/RuntimeException", "java/lang/Exception"]).filter goodWord ++ (vx_atM "java/lang/ArrayIndexOutOfBoundsException" ["java/lang/IndexOutOfBoundsException", "java/lang/RuntimeException", "java/lang/Exception"]).filter goodWord)
def wsX5_hasCoatLeft : List Cond := .code yX5_hasCoatLeft cX5_hasCoatLeft 2 (some .boolean) :: ([.fieldLink RX5 10 "HatReservations" "hall" "LHatReservations$Hall;", .fieldLink RX5 158 "HatReservations$Hall" "coatChairs" "[I", .methodLink RX5 119 yX5_requireGuest, .instanceMethod yX5_requireGuest, .selects RX5 yX5_requireGuest yX5_requireGuest, .initialized RX5, .code yX5_requireGuest cX5_requireGuest 2 none, .classLink RX5 81 "java/lang/IndexOutOfBoundsException", .initialized "java/lang/IndexOutOfBoundsException", .methodLink RX5 356 yX3_hasGuest, .instanceMethod yX3_hasGuest, .selects RX3 yX3_hasGuest yX3_hasGuest, .initialized RX3, .code yX3_hasGuest cX3_hasGuest 2 (some .boolean), .fieldLink RX3 41 "HatReservations$Hall" "guests" "I"] ++ wsX50 ++ wsX30 ++ (vx_atM "java/lang/ArrayIndexOutOfBoundsException" ["java/lang/IndexOutOfBoundsException", "java/lang/RuntimeException", "java/lang/Exception"]).filter goodWord ++ (vx_atS RX5 85 "java/lang/IndexOutOfBoundsException" ["java/lang/RuntimeException", "java/lang/Exception"]).filter goodWord)
def wsX5_coatChair : List Cond := .code yX5_coatChair cX5_coatChair 2 (some .int) :: ([.fieldLink RX5 10 "HatReservations" "hall" "LHatReservations$Hall;", .fieldLink RX5 158 "HatReservations$Hall" "coatChairs" "[I", .methodLink RX5 152 yX5_requireLeftCoat, .instanceMethod yX5_requireLeftCoat, .selects RX5 yX5_requireLeftCoat yX5_requireLeftCoat, .initialized RX5, .code yX5_requireLeftCoat cX5_requireLeftCoat 3 none, .classLink RX5 81 "java/lang/IndexOutOfBoundsException", .initialized "java/lang/IndexOutOfBoundsException", .classLink RX5 170 "java/util/NoSuchElementException", .initialized "java/util/NoSuchElementException", .methodLink RX5 364 yX3_refusalWithoutCoat, .instanceMethod yX3_refusalWithoutCoat, .selects RX3 yX3_refusalWithoutCoat yX3_refusalWithoutCoat, .initialized RX3, .code yX3_refusalWithoutCoat cX3_refusalWithoutCoat 2 (some .int), .fieldLink RX3 28 "HatReservations$Hall" "coatChairs" "[I", .methodLink RX3 65 yX3_hasGuest, .instanceMethod yX3_hasGuest, .selects RX3 yX3_hasGuest yX3_hasGuest, .code yX3_hasGuest cX3_hasGuest 2 (some .boolean), .fieldLink RX3 41 "HatReservations$Hall" "guests" "I"] ++ wsX50 ++ wsX30 ++ (vx_atM "java/lang/ArrayIndexOutOfBoundsException" ["java/lang/IndexOutOfBoundsException", "java/lang/RuntimeException", "java/lang/Exception"]).filter goodWord ++ (vx_atS RX5 85 "java/lang/IndexOutOfBoundsException" ["java/lang/RuntimeException", "java/lang/Exception"]).filter goodWord ++ (vx_atS RX5 174 "java/util/NoSuchElementException" ["java/lang/RuntimeException", "java/lang/Exception"]).filter goodWord)
def wsX5_requireChair : List Cond := .code yX5_requireChair cX5_requireChair 1 none :: ([.classLink RX5 81 "java/lang/IndexOutOfBoundsException", .initialized "java/lang/IndexOutOfBoundsException", .methodLink RX5 369 yX3_hasChair, .static yX3_hasChair, .initialized RX3, .code yX3_hasChair cX3_hasChair 1 (some .boolean)] ++ (vx_atS RX5 85 "java/lang/IndexOutOfBoundsException" ["java/lang/RuntimeException", "java/lang/Exception"]).filter goodWord)
def wsX5_coatCount : List Cond := .code yX5_coatCount cX5_coatCount 2 (some .int) :: ([.fieldLink RX5 10 "HatReservations" "hall" "LHatReservations$Hall;", .methodLink RX5 161 yX5_requireChair, .static yX5_requireChair, .initialized RX5, .code yX5_requireChair cX5_requireChair 1 none, .classLink RX5 81 "java/lang/IndexOutOfBoundsException", .initialized "java/lang/IndexOutOfBoundsException", .methodLink RX5 369 yX3_hasChair, .static yX3_hasChair, .initialized RX3, .code yX3_hasChair cX3_hasChair 1 (some .boolean), .methodLink RX5 164 yX3_coatsOn, .instanceMethod yX3_coatsOn, .selects RX3 yX3_coatsOn yX3_coatsOn, .code yX3_coatsOn cX3_coatsOn 4 (some .int), .fieldLink RX3 28 "HatReservations$Hall" "coatChairs" "[I"] ++ wsX50 ++ wsX30 ++ (vx_atS RX5 85 "java/lang/IndexOutOfBoundsException" ["java/lang/RuntimeException", "java/lang/Exception"]).filter goodWord ++ (vx_atM "java/lang/ArrayIndexOutOfBoundsException" ["java/lang/IndexOutOfBoundsException", "java/lang/RuntimeException", "java/lang/Exception"]).filter goodWord)
def wsX5_coatOwner : List Cond := .code yX5_coatOwner cX5_coatOwner 4 (some .int) :: ([.classLink RX5 170 "java/util/NoSuchElementException", .initialized "java/util/NoSuchElementException", .fieldLink RX5 10 "HatReservations" "hall" "LHatReservations$Hall;", .methodLink RX5 161 yX5_requireChair, .static yX5_requireChair, .initialized RX5, .code yX5_requireChair cX5_requireChair 1 none, .classLink RX5 81 "java/lang/IndexOutOfBoundsException", .initialized "java/lang/IndexOutOfBoundsException", .methodLink RX5 369 yX3_hasChair, .static yX3_hasChair, .initialized RX3, .code yX3_hasChair cX3_hasChair 1 (some .boolean), .methodLink RX5 167 yX3_ownerAt, .instanceMethod yX3_ownerAt, .selects RX3 yX3_ownerAt yX3_ownerAt, .code yX3_ownerAt cX3_ownerAt 4 (some .int), .fieldLink RX3 28 "HatReservations$Hall" "coatChairs" "[I", .fieldLink RX3 31 "HatReservations$Hall" "coatPositions" "[I"] ++ wsX50 ++ wsX30 ++ (vx_atS RX5 174 "java/util/NoSuchElementException" ["java/lang/RuntimeException", "java/lang/Exception"]).filter goodWord ++ (vx_atS RX5 85 "java/lang/IndexOutOfBoundsException" ["java/lang/RuntimeException", "java/lang/Exception"]).filter goodWord ++ (vx_atM "java/lang/ArrayIndexOutOfBoundsException" ["java/lang/IndexOutOfBoundsException", "java/lang/RuntimeException", "java/lang/Exception"]).filter goodWord)
def wsX5_nextClaimant_r1 : List Cond := [Cond.classLink RX5 170 "java/util/NoSuchElementException", Cond.initialized "java/util/NoSuchElementException", Cond.fieldLink RX5 10 "HatReservations" "hall" "LHatReservations$Hall;", Cond.methodLink RX5 161 yX5_requireChair, Cond.static yX5_requireChair, Cond.initialized RX5, Cond.code yX5_requireChair cX5_requireChair 1 none, Cond.classLink RX5 81 "java/lang/IndexOutOfBoundsException", Cond.initialized "java/lang/IndexOutOfBoundsException", Cond.methodLink RX5 369 yX3_hasChair, Cond.static yX3_hasChair, Cond.initialized RX3, Cond.code yX3_hasChair cX3_hasChair 1 (some .boolean), Cond.methodLink RX5 175 yX3_claimantByQueue, Cond.instanceMethod yX3_claimantByQueue, Cond.selects RX3 yX3_claimantByQueue yX3_claimantByQueue, Cond.code yX3_claimantByQueue cX3_claimantByQueue 4 (some .int), Cond.methodLink RX3 107 yX3_ownerAt, Cond.instanceMethod yX3_ownerAt, Cond.selects RX3 yX3_ownerAt yX3_ownerAt, Cond.code yX3_ownerAt cX3_ownerAt 4 (some .int), Cond.fieldLink RX3 28 "HatReservations$Hall" "coatChairs" "[I", Cond.fieldLink RX3 31 "HatReservations$Hall" "coatPositions" "[I", Cond.methodLink RX3 72 yX3_hatIsPlaced]
def wsX5_nextClaimant_r2 : List Cond := [Cond.instanceMethod yX3_hatIsPlaced, Cond.selects RX3 yX3_hatIsPlaced yX3_hatIsPlaced, Cond.code yX3_hatIsPlaced cX3_hatIsPlaced 2 (some .boolean), Cond.fieldLink RX3 18 "HatReservations$Hall" "hatChairs" "[I"]
def wsX5_nextClaimant : List Cond := .code yX5_nextClaimant cX5_nextClaimant 3 (some .int) :: ((wsX5_nextClaimant_r1 ++ wsX5_nextClaimant_r2) ++ wsX50 ++ wsX30 ++ (vx_atS RX5 174 "java/util/NoSuchElementException" ["java/lang/RuntimeException", "java/lang/Exception"]).filter goodWord ++ (vx_atS RX5 85 "java/lang/IndexOutOfBoundsException" ["java/lang/RuntimeException", "java/lang/Exception"]).filter goodWord ++ (vx_atM "java/lang/ArrayIndexOutOfBoundsException" ["java/lang/IndexOutOfBoundsException", "java/lang/RuntimeException", "java/lang/Exception"]).filter goodWord)
def wsX5_nextClaimantByTime : List Cond := .code yX5_nextClaimantByTime cX5_nextClaimantByTime 3 (some .int) :: ([.classLink RX5 170 "java/util/NoSuchElementException", .initialized "java/util/NoSuchElementException", .fieldLink RX5 10 "HatReservations" "hall" "LHatReservations$Hall;", .methodLink RX5 161 yX5_requireChair, .static yX5_requireChair, .initialized RX5, .code yX5_requireChair cX5_requireChair 1 none, .classLink RX5 81 "java/lang/IndexOutOfBoundsException", .initialized "java/lang/IndexOutOfBoundsException", .methodLink RX5 369 yX3_hasChair, .static yX3_hasChair, .initialized RX3, .code yX3_hasChair cX3_hasChair 1 (some .boolean), .methodLink RX5 180 yX3_claimantByOrder, .instanceMethod yX3_claimantByOrder, .selects RX3 yX3_claimantByOrder yX3_claimantByOrder, .code yX3_claimantByOrder cX3_claimantByOrder 5 (some .int), .fieldLink RX3 28 "HatReservations$Hall" "coatChairs" "[I", .fieldLink RX3 34 "HatReservations$Hall" "coatOrders" "[I", .methodLink RX3 72 yX3_hatIsPlaced, .instanceMethod yX3_hatIsPlaced, .selects RX3 yX3_hatIsPlaced yX3_hatIsPlaced, .code yX3_hatIsPlaced cX3_hatIsPlaced 2 (some .boolean), .fieldLink RX3 18 "HatReservations$Hall" "hatChairs" "[I"] ++ wsX50 ++ wsX30 ++ (vx_atS RX5 174 "java/util/NoSuchElementException" ["java/lang/RuntimeException", "java/lang/Exception"]).filter goodWord ++ (vx_atS RX5 85 "java/lang/IndexOutOfBoundsException" ["java/lang/RuntimeException", "java/lang/Exception"]).filter goodWord ++ (vx_atM "java/lang/ArrayIndexOutOfBoundsException" ["java/lang/IndexOutOfBoundsException", "java/lang/RuntimeException", "java/lang/Exception"]).filter goodWord)
def wsX5_contest_r1 : List Cond := [Cond.classLink RX5 81 "java/lang/IndexOutOfBoundsException", Cond.initialized "java/lang/IndexOutOfBoundsException", Cond.classLink RX5 170 "java/util/NoSuchElementException", Cond.initialized "java/util/NoSuchElementException", Cond.classLink RX5 65 "java/lang/IllegalStateException", Cond.initialized "java/lang/IllegalStateException", Cond.fieldLink RX5 10 "HatReservations" "hall" "LHatReservations$Hall;", Cond.fieldLink RX5 22 "HatReservations" "history" "LHatReservations$History;", Cond.methodLink RX5 183 yX3_refusalOfContest, Cond.instanceMethod yX3_refusalOfContest, Cond.selects RX3 yX3_refusalOfContest yX3_refusalOfContest, Cond.initialized RX3, Cond.code yX3_refusalOfContest cX3_refusalOfContest 3 (some .int), Cond.methodLink RX3 65 yX3_hasGuest, Cond.instanceMethod yX3_hasGuest, Cond.selects RX3 yX3_hasGuest yX3_hasGuest, Cond.code yX3_hasGuest cX3_hasGuest 2 (some .boolean), Cond.fieldLink RX3 41 "HatReservations$Hall" "guests" "I", Cond.methodLink RX3 69 yX3_hasChair, Cond.static yX3_hasChair, Cond.code yX3_hasChair cX3_hasChair 1 (some .boolean), Cond.methodLink RX3 75 yX3_covererAt, Cond.instanceMethod yX3_covererAt, Cond.selects RX3 yX3_covererAt yX3_covererAt]
def wsX5_contest_r2 : List Cond := [Cond.code yX3_covererAt cX3_covererAt 3 (some .int), Cond.fieldLink RX3 24 "HatReservations$Hall" "covers" "[J", Cond.methodLink RX3 72 yX3_hatIsPlaced, Cond.instanceMethod yX3_hatIsPlaced, Cond.selects RX3 yX3_hatIsPlaced yX3_hatIsPlaced, Cond.code yX3_hatIsPlaced cX3_hatIsPlaced 2 (some .boolean), Cond.fieldLink RX3 18 "HatReservations$Hall" "hatChairs" "[I", Cond.methodLink RX5 70 yX4_remember, Cond.instanceMethod yX4_remember, Cond.selects RX4 yX4_remember yX4_remember, Cond.initialized RX4, Cond.code yX4_remember cX4_remember 2 none, Cond.methodLink RX4 25 yX4_prepare, Cond.instanceMethod yX4_prepare, Cond.selects RX4 yX4_prepare yX4_prepare, Cond.code yX4_prepare cX4_prepare 2 none, Cond.fieldLink RX4 13 "HatReservations$History" "halls" "[LHatReservations$Hall;", Cond.fieldLink RX4 17 "HatReservations$History" "spare" "I", Cond.methodLink RX4 32 yX3_become, Cond.instanceMethod yX3_become, Cond.selects RX3 yX3_become yX3_become, Cond.code yX3_become cX3_become 2 none, Cond.fieldLink RX3 9 "HatReservations$Hall" "feathers" "[I", Cond.methodLink RX3 59 arraycopyName]
def wsX5_contest_r3 : List Cond := [Cond.native arraycopyName, Cond.static arraycopyName, Cond.initialized "java/lang/System", Cond.fieldLink RX3 15 "HatReservations$Hall" "brims" "[I", Cond.fieldLink RX3 21 "HatReservations$Hall" "touchTimes" "[I", Cond.fieldLink RX3 28 "HatReservations$Hall" "coatChairs" "[I", Cond.fieldLink RX3 31 "HatReservations$Hall" "coatPositions" "[I", Cond.fieldLink RX3 34 "HatReservations$Hall" "coatOrders" "[I", Cond.fieldLink RX3 37 "HatReservations$Hall" "coatsEverLeft" "I", Cond.fieldLink RX3 44 "HatReservations$Hall" "time" "I", Cond.fieldLink RX3 47 "HatReservations$Hall" "swept" "I", Cond.fieldLink RX3 50 "HatReservations$Hall" "lapsed" "I", Cond.fieldLink RX3 53 "HatReservations$Hall" "taken" "I", Cond.fieldLink RX3 56 "HatReservations$Hall" "won" "I", Cond.methodLink RX4 29 yX4_keep, Cond.instanceMethod yX4_keep, Cond.selects RX4 yX4_keep yX4_keep, Cond.code yX4_keep cX4_keep 1 none, Cond.fieldLink RX4 21 "HatReservations$History" "count" "I", Cond.methodLink RX4 35 Lib.Math.min.name, Cond.static Lib.Math.min.name, Cond.initialized "java/lang/Math", Cond.code Lib.Math.min.name Lib.Math.min.code 2 (some .int), Cond.methodLink RX5 188 yX3_fightFor]
def wsX5_contest_r4 : List Cond := [Cond.instanceMethod yX3_fightFor, Cond.selects RX3 yX3_fightFor yX3_fightFor, Cond.code yX3_fightFor cX3_fightFor 6 (some .boolean), Cond.methodLink RX3 125 Lib.Math.max.name, Cond.static Lib.Math.max.name, Cond.code Lib.Math.max.name Lib.Math.max.code 2 (some .int), Cond.methodLink RX3 121 yX3_isStronger, Cond.instanceMethod yX3_isStronger, Cond.selects RX3 yX3_isStronger yX3_isStronger, Cond.code yX3_isStronger cX3_isStronger 3 (some .boolean), Cond.methodLink RX3 130 yX3_loseChair, Cond.instanceMethod yX3_loseChair, Cond.selects RX3 yX3_loseChair yX3_loseChair, Cond.code yX3_loseChair cX3_loseChair 12 (some .long), Cond.constantLong RX3 134 (-1), Cond.methodLink RX3 99 yX3_liftHat, Cond.instanceMethod yX3_liftHat, Cond.selects RX3 yX3_liftHat yX3_liftHat, Cond.code yX3_liftHat cX3_liftHat 4 (some .long), Cond.methodLink RX3 118 yX3_putHat, Cond.instanceMethod yX3_putHat, Cond.selects RX3 yX3_putHat yX3_putHat, Cond.code yX3_putHat cX3_putHat 5 (some .int), Cond.methodLink RX3 91 yX3_coveredChairs]
def wsX5_contest_r5 : List Cond := [Cond.instanceMethod yX3_coveredChairs, Cond.selects RX3 yX3_coveredChairs yX3_coveredChairs, Cond.code yX3_coveredChairs cX3_coveredChairs 4 (some .long), Cond.methodLink RX3 95 yX3_reach, Cond.static yX3_reach, Cond.code yX3_reach cX3_reach 12 (some .long), Cond.methodLink RX3 82 yJ13_bitCount_95d88, Cond.static yJ13_bitCount_95d88, Cond.initialized RJ13, Cond.code yJ13_bitCount_95d88 cJ13_bitCount_95d88 2 (some .int), Cond.constantLong RJ13 314 (6148914691236517205), Cond.constantLong RJ13 316 (3689348814741910323), Cond.constantLong RJ13 318 (1085102592571150095), Cond.methodLink RX3 103 yX3_offerChairs, Cond.instanceMethod yX3_offerChairs, Cond.selects RX3 yX3_offerChairs yX3_offerChairs, Cond.code yX3_offerChairs cX3_offerChairs 4 none, Cond.methodLink RX3 111 yX3_offerChair, Cond.instanceMethod yX3_offerChair, Cond.selects RX3 yX3_offerChair yX3_offerChair, Cond.code yX3_offerChair cX3_offerChair 4 none, Cond.methodLink RX3 107 yX3_ownerAt, Cond.instanceMethod yX3_ownerAt, Cond.selects RX3 yX3_ownerAt yX3_ownerAt]
def wsX5_contest_r6 : List Cond := [Cond.code yX3_ownerAt cX3_ownerAt 4 (some .int), Cond.methodLink RX3 115 yX3_pullCoat, Cond.instanceMethod yX3_pullCoat, Cond.selects RX3 yX3_pullCoat yX3_pullCoat, Cond.code yX3_pullCoat cX3_pullCoat 4 (some .int)]
def wsX5_contest : List Cond := .code yX5_contest cX5_contest 4 (some .boolean) :: ((wsX5_contest_r1 ++ (wsX5_contest_r2 ++ (wsX5_contest_r3 ++ (wsX5_contest_r4 ++ (wsX5_contest_r5 ++ wsX5_contest_r6))))) ++ wsX50 ++ wsX30 ++ wsX40 ++ (vx_atS RX5 85 "java/lang/IndexOutOfBoundsException" ["java/lang/RuntimeException", "java/lang/Exception"]).filter goodWord ++ (vx_atS RX5 174 "java/util/NoSuchElementException" ["java/lang/RuntimeException", "java/lang/Exception"]).filter goodWord ++ (vx_atS RX5 69 "java/lang/IllegalStateException" ["java/lang/RuntimeException", "java/lang/Exception"]).filter goodWord ++ (vx_atM "java/lang/ArrayIndexOutOfBoundsException" ["java/lang/IndexOutOfBoundsException", "java/lang/RuntimeException", "java/lang/Exception"]).filter goodWord)
def wsX5_wouldWin_r1 : List Cond := [Cond.classLink RX5 81 "java/lang/IndexOutOfBoundsException", Cond.initialized "java/lang/IndexOutOfBoundsException", Cond.fieldLink RX5 10 "HatReservations" "hall" "LHatReservations$Hall;", Cond.methodLink RX5 183 yX3_refusalOfContest, Cond.instanceMethod yX3_refusalOfContest, Cond.selects RX3 yX3_refusalOfContest yX3_refusalOfContest, Cond.initialized RX3, Cond.code yX3_refusalOfContest cX3_refusalOfContest 3 (some .int), Cond.methodLink RX3 65 yX3_hasGuest, Cond.instanceMethod yX3_hasGuest, Cond.selects RX3 yX3_hasGuest yX3_hasGuest, Cond.code yX3_hasGuest cX3_hasGuest 2 (some .boolean), Cond.fieldLink RX3 41 "HatReservations$Hall" "guests" "I", Cond.methodLink RX3 69 yX3_hasChair, Cond.static yX3_hasChair, Cond.code yX3_hasChair cX3_hasChair 1 (some .boolean), Cond.methodLink RX3 75 yX3_covererAt, Cond.instanceMethod yX3_covererAt, Cond.selects RX3 yX3_covererAt yX3_covererAt, Cond.code yX3_covererAt cX3_covererAt 3 (some .int), Cond.fieldLink RX3 24 "HatReservations$Hall" "covers" "[J", Cond.methodLink RX3 72 yX3_hatIsPlaced, Cond.instanceMethod yX3_hatIsPlaced, Cond.selects RX3 yX3_hatIsPlaced yX3_hatIsPlaced]
def wsX5_wouldWin_r2 : List Cond := [Cond.code yX3_hatIsPlaced cX3_hatIsPlaced 2 (some .boolean), Cond.fieldLink RX3 18 "HatReservations$Hall" "hatChairs" "[I", Cond.methodLink RX5 192 yX3_covererAt, Cond.methodLink RX5 195 yX3_isStronger, Cond.instanceMethod yX3_isStronger, Cond.selects RX3 yX3_isStronger yX3_isStronger, Cond.code yX3_isStronger cX3_isStronger 3 (some .boolean), Cond.fieldLink RX3 9 "HatReservations$Hall" "feathers" "[I"]
def wsX5_wouldWin : List Cond := .code yX5_wouldWin cX5_wouldWin 4 (some .boolean) :: ((wsX5_wouldWin_r1 ++ wsX5_wouldWin_r2) ++ wsX50 ++ wsX30 ++ (vx_atS RX5 85 "java/lang/IndexOutOfBoundsException" ["java/lang/RuntimeException", "java/lang/Exception"]).filter goodWord ++ (vx_atM "java/lang/ArrayIndexOutOfBoundsException" ["java/lang/IndexOutOfBoundsException", "java/lang/RuntimeException", "java/lang/Exception"]).filter goodWord)
def wsX5_pass_r1 : List Cond := [Cond.classLink RX5 58 "java/lang/IllegalArgumentException", Cond.initialized "java/lang/IllegalArgumentException", Cond.fieldLink RX5 10 "HatReservations" "hall" "LHatReservations$Hall;", Cond.fieldLink RX5 22 "HatReservations" "history" "LHatReservations$History;", Cond.methodLink RX5 198 yX3_refusalOfPass, Cond.instanceMethod yX3_refusalOfPass, Cond.selects RX3 yX3_refusalOfPass yX3_refusalOfPass, Cond.initialized RX3, Cond.code yX3_refusalOfPass cX3_refusalOfPass 2 (some .int), Cond.methodLink RX5 70 yX4_remember, Cond.instanceMethod yX4_remember, Cond.selects RX4 yX4_remember yX4_remember, Cond.initialized RX4, Cond.code yX4_remember cX4_remember 2 none, Cond.methodLink RX4 25 yX4_prepare, Cond.instanceMethod yX4_prepare, Cond.selects RX4 yX4_prepare yX4_prepare, Cond.code yX4_prepare cX4_prepare 2 none, Cond.fieldLink RX4 13 "HatReservations$History" "halls" "[LHatReservations$Hall;", Cond.fieldLink RX4 17 "HatReservations$History" "spare" "I", Cond.methodLink RX4 32 yX3_become, Cond.instanceMethod yX3_become, Cond.selects RX3 yX3_become yX3_become, Cond.code yX3_become cX3_become 2 none]
def wsX5_pass_r2 : List Cond := [Cond.fieldLink RX3 9 "HatReservations$Hall" "feathers" "[I", Cond.methodLink RX3 59 arraycopyName, Cond.native arraycopyName, Cond.static arraycopyName, Cond.initialized "java/lang/System", Cond.fieldLink RX3 15 "HatReservations$Hall" "brims" "[I", Cond.fieldLink RX3 18 "HatReservations$Hall" "hatChairs" "[I", Cond.fieldLink RX3 21 "HatReservations$Hall" "touchTimes" "[I", Cond.fieldLink RX3 24 "HatReservations$Hall" "covers" "[J", Cond.fieldLink RX3 28 "HatReservations$Hall" "coatChairs" "[I", Cond.fieldLink RX3 31 "HatReservations$Hall" "coatPositions" "[I", Cond.fieldLink RX3 34 "HatReservations$Hall" "coatOrders" "[I", Cond.fieldLink RX3 37 "HatReservations$Hall" "coatsEverLeft" "I", Cond.fieldLink RX3 41 "HatReservations$Hall" "guests" "I", Cond.fieldLink RX3 44 "HatReservations$Hall" "time" "I", Cond.fieldLink RX3 47 "HatReservations$Hall" "swept" "I", Cond.fieldLink RX3 50 "HatReservations$Hall" "lapsed" "I", Cond.fieldLink RX3 53 "HatReservations$Hall" "taken" "I", Cond.fieldLink RX3 56 "HatReservations$Hall" "won" "I", Cond.methodLink RX4 29 yX4_keep, Cond.instanceMethod yX4_keep, Cond.selects RX4 yX4_keep yX4_keep, Cond.code yX4_keep cX4_keep 1 none, Cond.fieldLink RX4 21 "HatReservations$History" "count" "I"]
def wsX5_pass_r3 : List Cond := [Cond.methodLink RX4 35 Lib.Math.min.name, Cond.static Lib.Math.min.name, Cond.initialized "java/lang/Math", Cond.code Lib.Math.min.name Lib.Math.min.code 2 (some .int), Cond.methodLink RX5 203 yX3_letPass, Cond.instanceMethod yX3_letPass, Cond.selects RX3 yX3_letPass yX3_letPass, Cond.code yX3_letPass cX3_letPass 2 (some .int)]
def wsX5_pass : List Cond := .code yX5_pass cX5_pass 2 (some .int) :: ((wsX5_pass_r1 ++ (wsX5_pass_r2 ++ wsX5_pass_r3)) ++ wsX50 ++ wsX40 ++ wsX30 ++ (vx_atS RX5 62 "java/lang/IllegalArgumentException" ["java/lang/RuntimeException", "java/lang/Exception"]).filter goodWord)
def wsX5_sweep_r1 : List Cond := [Cond.classLink RX5 58 "java/lang/IllegalArgumentException", Cond.initialized "java/lang/IllegalArgumentException", Cond.fieldLink RX5 10 "HatReservations" "hall" "LHatReservations$Hall;", Cond.fieldLink RX5 22 "HatReservations" "history" "LHatReservations$History;", Cond.methodLink RX5 206 yX3_refusalOfSweep, Cond.instanceMethod yX3_refusalOfSweep, Cond.selects RX3 yX3_refusalOfSweep yX3_refusalOfSweep, Cond.initialized RX3, Cond.code yX3_refusalOfSweep cX3_refusalOfSweep 2 (some .int), Cond.methodLink RX5 70 yX4_remember, Cond.instanceMethod yX4_remember, Cond.selects RX4 yX4_remember yX4_remember, Cond.initialized RX4, Cond.code yX4_remember cX4_remember 2 none, Cond.methodLink RX4 25 yX4_prepare, Cond.instanceMethod yX4_prepare, Cond.selects RX4 yX4_prepare yX4_prepare, Cond.code yX4_prepare cX4_prepare 2 none, Cond.fieldLink RX4 13 "HatReservations$History" "halls" "[LHatReservations$Hall;", Cond.fieldLink RX4 17 "HatReservations$History" "spare" "I", Cond.methodLink RX4 32 yX3_become, Cond.instanceMethod yX3_become, Cond.selects RX3 yX3_become yX3_become, Cond.code yX3_become cX3_become 2 none]
def wsX5_sweep_r2 : List Cond := [Cond.fieldLink RX3 9 "HatReservations$Hall" "feathers" "[I", Cond.methodLink RX3 59 arraycopyName, Cond.native arraycopyName, Cond.static arraycopyName, Cond.initialized "java/lang/System", Cond.fieldLink RX3 15 "HatReservations$Hall" "brims" "[I", Cond.fieldLink RX3 18 "HatReservations$Hall" "hatChairs" "[I", Cond.fieldLink RX3 21 "HatReservations$Hall" "touchTimes" "[I", Cond.fieldLink RX3 24 "HatReservations$Hall" "covers" "[J", Cond.fieldLink RX3 28 "HatReservations$Hall" "coatChairs" "[I", Cond.fieldLink RX3 31 "HatReservations$Hall" "coatPositions" "[I", Cond.fieldLink RX3 34 "HatReservations$Hall" "coatOrders" "[I", Cond.fieldLink RX3 37 "HatReservations$Hall" "coatsEverLeft" "I", Cond.fieldLink RX3 41 "HatReservations$Hall" "guests" "I", Cond.fieldLink RX3 44 "HatReservations$Hall" "time" "I", Cond.fieldLink RX3 47 "HatReservations$Hall" "swept" "I", Cond.fieldLink RX3 50 "HatReservations$Hall" "lapsed" "I", Cond.fieldLink RX3 53 "HatReservations$Hall" "taken" "I", Cond.fieldLink RX3 56 "HatReservations$Hall" "won" "I", Cond.methodLink RX4 29 yX4_keep, Cond.instanceMethod yX4_keep, Cond.selects RX4 yX4_keep yX4_keep, Cond.code yX4_keep cX4_keep 1 none, Cond.fieldLink RX4 21 "HatReservations$History" "count" "I"]
def wsX5_sweep_r3 : List Cond := [Cond.methodLink RX4 35 Lib.Math.min.name, Cond.static Lib.Math.min.name, Cond.initialized "java/lang/Math", Cond.code Lib.Math.min.name Lib.Math.min.code 2 (some .int), Cond.methodLink RX5 211 yX3_sweepHats, Cond.instanceMethod yX3_sweepHats, Cond.selects RX3 yX3_sweepHats yX3_sweepHats, Cond.code yX3_sweepHats cX3_sweepHats 6 (some .int), Cond.methodLink RX3 72 yX3_hatIsPlaced, Cond.instanceMethod yX3_hatIsPlaced, Cond.selects RX3 yX3_hatIsPlaced yX3_hatIsPlaced, Cond.code yX3_hatIsPlaced cX3_hatIsPlaced 2 (some .boolean), Cond.methodLink RX3 88 yX3_idleTime, Cond.instanceMethod yX3_idleTime, Cond.selects RX3 yX3_idleTime yX3_idleTime, Cond.code yX3_idleTime cX3_idleTime 2 (some .int), Cond.methodLink RX3 99 yX3_liftHat, Cond.instanceMethod yX3_liftHat, Cond.selects RX3 yX3_liftHat yX3_liftHat, Cond.code yX3_liftHat cX3_liftHat 4 (some .long), Cond.methodLink RX3 103 yX3_offerChairs, Cond.instanceMethod yX3_offerChairs, Cond.selects RX3 yX3_offerChairs yX3_offerChairs, Cond.code yX3_offerChairs cX3_offerChairs 4 none]
def wsX5_sweep_r4 : List Cond := [Cond.methodLink RX3 75 yX3_covererAt, Cond.instanceMethod yX3_covererAt, Cond.selects RX3 yX3_covererAt yX3_covererAt, Cond.code yX3_covererAt cX3_covererAt 3 (some .int), Cond.methodLink RX3 111 yX3_offerChair, Cond.instanceMethod yX3_offerChair, Cond.selects RX3 yX3_offerChair yX3_offerChair, Cond.code yX3_offerChair cX3_offerChair 4 none, Cond.methodLink RX3 107 yX3_ownerAt, Cond.instanceMethod yX3_ownerAt, Cond.selects RX3 yX3_ownerAt yX3_ownerAt, Cond.code yX3_ownerAt cX3_ownerAt 4 (some .int), Cond.methodLink RX3 115 yX3_pullCoat, Cond.instanceMethod yX3_pullCoat, Cond.selects RX3 yX3_pullCoat yX3_pullCoat, Cond.code yX3_pullCoat cX3_pullCoat 4 (some .int), Cond.methodLink RX3 118 yX3_putHat, Cond.instanceMethod yX3_putHat, Cond.selects RX3 yX3_putHat yX3_putHat, Cond.code yX3_putHat cX3_putHat 5 (some .int), Cond.methodLink RX3 91 yX3_coveredChairs, Cond.instanceMethod yX3_coveredChairs, Cond.selects RX3 yX3_coveredChairs yX3_coveredChairs, Cond.code yX3_coveredChairs cX3_coveredChairs 4 (some .long)]
def wsX5_sweep_r5 : List Cond := [Cond.methodLink RX3 95 yX3_reach, Cond.static yX3_reach, Cond.code yX3_reach cX3_reach 12 (some .long), Cond.methodLink RX3 82 yJ13_bitCount_95d88, Cond.static yJ13_bitCount_95d88, Cond.initialized RJ13, Cond.code yJ13_bitCount_95d88 cJ13_bitCount_95d88 2 (some .int), Cond.constantLong RJ13 314 (6148914691236517205), Cond.constantLong RJ13 316 (3689348814741910323), Cond.constantLong RJ13 318 (1085102592571150095)]
def wsX5_sweep : List Cond := .code yX5_sweep cX5_sweep 2 (some .int) :: ((wsX5_sweep_r1 ++ (wsX5_sweep_r2 ++ (wsX5_sweep_r3 ++ (wsX5_sweep_r4 ++ wsX5_sweep_r5)))) ++ wsX50 ++ wsX40 ++ wsX30 ++ (vx_atS RX5 62 "java/lang/IllegalArgumentException" ["java/lang/RuntimeException", "java/lang/Exception"]).filter goodWord ++ (vx_atM "java/lang/ArrayIndexOutOfBoundsException" ["java/lang/IndexOutOfBoundsException", "java/lang/RuntimeException", "java/lang/Exception"]).filter goodWord)
def wsX5_now : List Cond := .code yX5_now cX5_now 1 (some .int) :: ([.fieldLink RX5 10 "HatReservations" "hall" "LHatReservations$Hall;", .fieldLink RX5 214 "HatReservations$Hall" "time" "I"] ++ wsX50 ++ wsX30)
def wsX5_idlestGuest : List Cond := .code yX5_idlestGuest cX5_idlestGuest 2 (some .int) :: ([.classLink RX5 170 "java/util/NoSuchElementException", .initialized "java/util/NoSuchElementException", .fieldLink RX5 10 "HatReservations" "hall" "LHatReservations$Hall;", .methodLink RX5 217 yX3_idlest, .instanceMethod yX3_idlest, .selects RX3 yX3_idlest yX3_idlest, .initialized RX3, .code yX3_idlest cX3_idlest 3 (some .int), .methodLink RX3 72 yX3_hatIsPlaced, .instanceMethod yX3_hatIsPlaced, .selects RX3 yX3_hatIsPlaced yX3_hatIsPlaced, .code yX3_hatIsPlaced cX3_hatIsPlaced 2 (some .boolean), .fieldLink RX3 18 "HatReservations$Hall" "hatChairs" "[I", .methodLink RX3 88 yX3_idleTime, .instanceMethod yX3_idleTime, .selects RX3 yX3_idleTime yX3_idleTime, .code yX3_idleTime cX3_idleTime 2 (some .int), .fieldLink RX3 44 "HatReservations$Hall" "time" "I", .fieldLink RX3 21 "HatReservations$Hall" "touchTimes" "[I"] ++ wsX50 ++ wsX30 ++ (vx_atS RX5 174 "java/util/NoSuchElementException" ["java/lang/RuntimeException", "java/lang/Exception"]).filter goodWord ++ (vx_atM "java/lang/ArrayIndexOutOfBoundsException" ["java/lang/IndexOutOfBoundsException", "java/lang/RuntimeException", "java/lang/Exception"]).filter goodWord)
def wsX5_isCovered : List Cond := .code yX5_isCovered cX5_isCovered 2 (some .boolean) :: ([.fieldLink RX5 10 "HatReservations" "hall" "LHatReservations$Hall;", .methodLink RX5 161 yX5_requireChair, .static yX5_requireChair, .initialized RX5, .code yX5_requireChair cX5_requireChair 1 none, .classLink RX5 81 "java/lang/IndexOutOfBoundsException", .initialized "java/lang/IndexOutOfBoundsException", .methodLink RX5 369 yX3_hasChair, .static yX3_hasChair, .initialized RX3, .code yX3_hasChair cX3_hasChair 1 (some .boolean), .methodLink RX5 192 yX3_covererAt, .instanceMethod yX3_covererAt, .selects RX3 yX3_covererAt yX3_covererAt, .code yX3_covererAt cX3_covererAt 3 (some .int), .fieldLink RX3 24 "HatReservations$Hall" "covers" "[J"] ++ wsX50 ++ wsX30 ++ (vx_atS RX5 85 "java/lang/IndexOutOfBoundsException" ["java/lang/RuntimeException", "java/lang/Exception"]).filter goodWord ++ (vx_atM "java/lang/ArrayIndexOutOfBoundsException" ["java/lang/IndexOutOfBoundsException", "java/lang/RuntimeException", "java/lang/Exception"]).filter goodWord)
def wsX5_covererOf : List Cond := .code yX5_covererOf cX5_covererOf 3 (some .int) :: ([.classLink RX5 170 "java/util/NoSuchElementException", .initialized "java/util/NoSuchElementException", .fieldLink RX5 10 "HatReservations" "hall" "LHatReservations$Hall;", .methodLink RX5 161 yX5_requireChair, .static yX5_requireChair, .initialized RX5, .code yX5_requireChair cX5_requireChair 1 none, .classLink RX5 81 "java/lang/IndexOutOfBoundsException", .initialized "java/lang/IndexOutOfBoundsException", .methodLink RX5 369 yX3_hasChair, .static yX3_hasChair, .initialized RX3, .code yX3_hasChair cX3_hasChair 1 (some .boolean), .methodLink RX5 192 yX3_covererAt, .instanceMethod yX3_covererAt, .selects RX3 yX3_covererAt yX3_covererAt, .code yX3_covererAt cX3_covererAt 3 (some .int), .fieldLink RX3 24 "HatReservations$Hall" "covers" "[J"] ++ wsX50 ++ wsX30 ++ (vx_atS RX5 174 "java/util/NoSuchElementException" ["java/lang/RuntimeException", "java/lang/Exception"]).filter goodWord ++ (vx_atS RX5 85 "java/lang/IndexOutOfBoundsException" ["java/lang/RuntimeException", "java/lang/Exception"]).filter goodWord ++ (vx_atM "java/lang/ArrayIndexOutOfBoundsException" ["java/lang/IndexOutOfBoundsException", "java/lang/RuntimeException", "java/lang/Exception"]).filter goodWord)
def wsX5_coveredMask : List Cond := .code yX5_coveredMask cX5_coveredMask 1 (some .long) :: ([.fieldLink RX5 10 "HatReservations" "hall" "LHatReservations$Hall;", .methodLink RX5 223 yX3_coveredChairs, .instanceMethod yX3_coveredChairs, .selects RX3 yX3_coveredChairs yX3_coveredChairs, .initialized RX3, .code yX3_coveredChairs cX3_coveredChairs 4 (some .long), .fieldLink RX3 24 "HatReservations$Hall" "covers" "[J"] ++ wsX50 ++ wsX30 ++ (vx_atM "java/lang/ArrayIndexOutOfBoundsException" ["java/lang/IndexOutOfBoundsException", "java/lang/RuntimeException", "java/lang/Exception"]).filter goodWord)
def wsX5_coveredCount : List Cond := .code yX5_coveredCount cX5_coveredCount 1 (some .int) :: ([.fieldLink RX5 10 "HatReservations" "hall" "LHatReservations$Hall;", .methodLink RX5 227 yX3_countByChair, .instanceMethod yX3_countByChair, .selects RX3 yX3_countByChair yX3_countByChair, .initialized RX3, .code yX3_countByChair cX3_countByChair 3 (some .int), .methodLink RX3 75 yX3_covererAt, .instanceMethod yX3_covererAt, .selects RX3 yX3_covererAt yX3_covererAt, .code yX3_covererAt cX3_covererAt 3 (some .int), .fieldLink RX3 24 "HatReservations$Hall" "covers" "[J"] ++ wsX50 ++ wsX30 ++ (vx_atM "java/lang/ArrayIndexOutOfBoundsException" ["java/lang/IndexOutOfBoundsException", "java/lang/RuntimeException", "java/lang/Exception"]).filter goodWord)
def wsX5_requireRow : List Cond := .code yX5_requireRow cX5_requireRow 1 none :: ([.classLink RX5 81 "java/lang/IndexOutOfBoundsException", .initialized "java/lang/IndexOutOfBoundsException"] ++ (vx_atS RX5 85 "java/lang/IndexOutOfBoundsException" ["java/lang/RuntimeException", "java/lang/Exception"]).filter goodWord)
def wsX5_longestFreeRun : List Cond := .code yX5_longestFreeRun cX5_longestFreeRun 2 (some .int) :: ([.fieldLink RX5 10 "HatReservations" "hall" "LHatReservations$Hall;", .methodLink RX5 233 yX5_requireRow, .static yX5_requireRow, .initialized RX5, .code yX5_requireRow cX5_requireRow 1 none, .classLink RX5 81 "java/lang/IndexOutOfBoundsException", .initialized "java/lang/IndexOutOfBoundsException", .methodLink RX5 236 yX3_freeRunByScan, .instanceMethod yX3_freeRunByScan, .selects RX3 yX3_freeRunByScan yX3_freeRunByScan, .initialized RX3, .code yX3_freeRunByScan cX3_freeRunByScan 5 (some .int), .methodLink RX3 125 Lib.Math.max.name, .static Lib.Math.max.name, .initialized "java/lang/Math", .code Lib.Math.max.name Lib.Math.max.code 2 (some .int), .methodLink RX3 75 yX3_covererAt, .instanceMethod yX3_covererAt, .selects RX3 yX3_covererAt yX3_covererAt, .code yX3_covererAt cX3_covererAt 3 (some .int), .fieldLink RX3 24 "HatReservations$Hall" "covers" "[J"] ++ wsX50 ++ wsX30 ++ (vx_atS RX5 85 "java/lang/IndexOutOfBoundsException" ["java/lang/RuntimeException", "java/lang/Exception"]).filter goodWord ++ (vx_atM "java/lang/ArrayIndexOutOfBoundsException" ["java/lang/IndexOutOfBoundsException", "java/lang/RuntimeException", "java/lang/Exception"]).filter goodWord)
def wsX5_longestFreeRunByMask : List Cond := .code yX5_longestFreeRunByMask cX5_longestFreeRunByMask 2 (some .int) :: ([.fieldLink RX5 10 "HatReservations" "hall" "LHatReservations$Hall;", .methodLink RX5 233 yX5_requireRow, .static yX5_requireRow, .initialized RX5, .code yX5_requireRow cX5_requireRow 1 none, .classLink RX5 81 "java/lang/IndexOutOfBoundsException", .initialized "java/lang/IndexOutOfBoundsException", .methodLink RX5 239 yX3_freeRunByShift, .instanceMethod yX3_freeRunByShift, .selects RX3 yX3_freeRunByShift yX3_freeRunByShift, .initialized RX3, .code yX3_freeRunByShift cX3_freeRunByShift 6 (some .int), .constantLong RX3 134 (-1), .constantLong RX3 139 (1023), .methodLink RX3 91 yX3_coveredChairs, .instanceMethod yX3_coveredChairs, .selects RX3 yX3_coveredChairs yX3_coveredChairs, .code yX3_coveredChairs cX3_coveredChairs 4 (some .long), .fieldLink RX3 24 "HatReservations$Hall" "covers" "[J"] ++ wsX50 ++ wsX30 ++ (vx_atS RX5 85 "java/lang/IndexOutOfBoundsException" ["java/lang/RuntimeException", "java/lang/Exception"]).filter goodWord ++ (vx_atM "java/lang/ArrayIndexOutOfBoundsException" ["java/lang/IndexOutOfBoundsException", "java/lang/RuntimeException", "java/lang/Exception"]).filter goodWord)
def wsX5_guestAtRank_r1 : List Cond := [Cond.classLink RX5 170 "java/util/NoSuchElementException", Cond.initialized "java/util/NoSuchElementException", Cond.fieldLink RX5 10 "HatReservations" "hall" "LHatReservations$Hall;", Cond.methodLink RX5 242 yX3_guestBehind, Cond.instanceMethod yX3_guestBehind, Cond.selects RX3 yX3_guestBehind yX3_guestBehind, Cond.initialized RX3, Cond.code yX3_guestBehind cX3_guestBehind 3 (some .int), Cond.fieldLink RX3 41 "HatReservations$Hall" "guests" "I", Cond.methodLink RX3 141 yX3_countBefore, Cond.instanceMethod yX3_countBefore, Cond.selects RX3 yX3_countBefore yX3_countBefore, Cond.code yX3_countBefore cX3_countBefore 4 (some .int), Cond.methodLink RX3 144 yX3_precedes, Cond.instanceMethod yX3_precedes, Cond.selects RX3 yX3_precedes yX3_precedes, Cond.code yX3_precedes cX3_precedes 3 (some .boolean), Cond.fieldLink RX3 9 "HatReservations$Hall" "feathers" "[I", Cond.methodLink RX3 136 yX3_coverOf, Cond.instanceMethod yX3_coverOf, Cond.selects RX3 yX3_coverOf yX3_coverOf, Cond.code yX3_coverOf cX3_coverOf 2 (some .int), Cond.fieldLink RX3 24 "HatReservations$Hall" "covers" "[J", Cond.methodLink RX3 82 yJ13_bitCount_95d88]
def wsX5_guestAtRank_r2 : List Cond := [Cond.static yJ13_bitCount_95d88, Cond.initialized RJ13, Cond.code yJ13_bitCount_95d88 cJ13_bitCount_95d88 2 (some .int), Cond.constantLong RJ13 314 (6148914691236517205), Cond.constantLong RJ13 316 (3689348814741910323), Cond.constantLong RJ13 318 (1085102592571150095)]
def wsX5_guestAtRank : List Cond := .code yX5_guestAtRank cX5_guestAtRank 3 (some .int) :: ((wsX5_guestAtRank_r1 ++ wsX5_guestAtRank_r2) ++ wsX50 ++ wsX30 ++ (vx_atS RX5 174 "java/util/NoSuchElementException" ["java/lang/RuntimeException", "java/lang/Exception"]).filter goodWord ++ (vx_atM "java/lang/ArrayIndexOutOfBoundsException" ["java/lang/IndexOutOfBoundsException", "java/lang/RuntimeException", "java/lang/Exception"]).filter goodWord)
def wsX5_sweptTotal : List Cond := .code yX5_sweptTotal cX5_sweptTotal 1 (some .int) :: ([.fieldLink RX5 10 "HatReservations" "hall" "LHatReservations$Hall;", .fieldLink RX5 247 "HatReservations$Hall" "swept" "I"] ++ wsX50 ++ wsX30)
def wsX5_lapsedTotal : List Cond := .code yX5_lapsedTotal cX5_lapsedTotal 1 (some .int) :: ([.fieldLink RX5 10 "HatReservations" "hall" "LHatReservations$Hall;", .fieldLink RX5 250 "HatReservations$Hall" "lapsed" "I"] ++ wsX50 ++ wsX30)
def wsX5_offersTaken : List Cond := .code yX5_offersTaken cX5_offersTaken 1 (some .int) :: ([.fieldLink RX5 10 "HatReservations" "hall" "LHatReservations$Hall;", .fieldLink RX5 253 "HatReservations$Hall" "taken" "I"] ++ wsX50 ++ wsX30)
def wsX5_contestsWon : List Cond := .code yX5_contestsWon cX5_contestsWon 1 (some .int) :: ([.fieldLink RX5 10 "HatReservations" "hall" "LHatReservations$Hall;", .fieldLink RX5 256 "HatReservations$Hall" "won" "I"] ++ wsX50 ++ wsX30)
def wsX5_append : List Cond := .code yX5_append cX5_append 2 (some .int) :: ([.classLink RX5 58 "java/lang/IllegalArgumentException", .initialized "java/lang/IllegalArgumentException", .classLink RX5 65 "java/lang/IllegalStateException", .initialized "java/lang/IllegalStateException", .fieldLink RX5 29 "HatReservations" "commandText" "LHatReservations$CommandText;", .methodLink RX5 261 yX2_isFull, .instanceMethod yX2_isFull, .selects RX2 yX2_isFull yX2_isFull, .initialized RX2, .code yX2_isFull cX2_isFull 1 (some .boolean), .fieldLink RX2 15 "HatReservations$CommandText" "length" "I", .methodLink RX5 267 yX2_add, .instanceMethod yX2_add, .selects RX2 yX2_add yX2_add, .code yX2_add cX2_add 2 (some .int), .fieldLink RX2 9 "HatReservations$CommandText" "characters" "[C"] ++ wsX50 ++ wsX20 ++ (vx_atS RX5 62 "java/lang/IllegalArgumentException" ["java/lang/RuntimeException", "java/lang/Exception"]).filter goodWord ++ (vx_atS RX5 69 "java/lang/IllegalStateException" ["java/lang/RuntimeException", "java/lang/Exception"]).filter goodWord ++ (vx_atM "java/lang/ArrayIndexOutOfBoundsException" ["java/lang/IndexOutOfBoundsException", "java/lang/RuntimeException", "java/lang/Exception"]).filter goodWord)
def wsX5_run_r1 : List Cond := [Cond.classLink RX5 58 "java/lang/IllegalArgumentException", Cond.initialized "java/lang/IllegalArgumentException", Cond.classLink RX5 65 "java/lang/IllegalStateException", Cond.initialized "java/lang/IllegalStateException", Cond.fieldLink RX5 29 "HatReservations" "commandText" "LHatReservations$CommandText;", Cond.fieldLink RX5 277 "HatReservations$CommandText" "position" "I", Cond.fieldLink RX5 45 "HatReservations" "lastErrorPosition" "I", Cond.fieldLink RX5 22 "HatReservations" "history" "LHatReservations$History;", Cond.fieldLink RX5 10 "HatReservations" "hall" "LHatReservations$Hall;", Cond.fieldLink RX5 285 "HatReservations$CommandText" "commandCount" "I", Cond.fieldLink RX5 288 "HatReservations$CommandText" "commands" "[LHatReservations$Command;", Cond.fieldLink RX5 292 "HatReservations$CommandText" "firsts" "[I", Cond.fieldLink RX5 295 "HatReservations$CommandText" "seconds" "[I", Cond.fieldLink RX5 48 "HatReservations" "lastFailedCommand" "I", Cond.fieldLink RX5 51 "HatReservations" "lastFailedException" "I", Cond.methodLink RX5 271 yX2_read, Cond.instanceMethod yX2_read, Cond.selects RX2 yX2_read yX2_read, Cond.initialized RX2, Cond.code yX2_read cX2_read 2 (some .boolean), Cond.fieldLink RX2 35 "HatReservations$CommandText" "position" "I", Cond.fieldLink RX2 32 "HatReservations$CommandText" "commandCount" "I", Cond.fieldLink RX2 15 "HatReservations$CommandText" "length" "I", Cond.methodLink RX2 42 yX2_readCommand]
def wsX5_run_r2 : List Cond := [Cond.instanceMethod yX2_readCommand, Cond.selects RX2 yX2_readCommand yX2_readCommand, Cond.code yX2_readCommand cX2_readCommand 5 (some .boolean), Cond.fieldLink RX2 54 "HatReservations$Command" "firstDigits" "I", Cond.fieldLink RX2 61 "HatReservations$Command" "isSpaced" "Z", Cond.fieldLink RX2 65 "HatReservations$Command" "secondDigits" "I", Cond.fieldLink RX2 21 "HatReservations$CommandText" "commands" "[LHatReservations$Command;", Cond.fieldLink RX2 25 "HatReservations$CommandText" "firsts" "[I", Cond.fieldLink RX2 29 "HatReservations$CommandText" "seconds" "[I", Cond.methodLink RX2 50 yX2_readKeyword, Cond.instanceMethod yX2_readKeyword, Cond.selects RX2 yX2_readKeyword yX2_readKeyword, Cond.code yX2_readKeyword cX2_readKeyword 5 (some (.object "HatReservations$Command")), Cond.fieldLink RX2 71 "HatReservations$Command" "keyword" "Ljava/lang/String;", Cond.methodLink RX2 79 Lib.Math.max.name, Cond.static Lib.Math.max.name, Cond.initialized "java/lang/Math", Cond.code Lib.Math.max.name Lib.Math.max.code 2 (some .int), Cond.methodLink RX2 75 yX2_countMatched, Cond.instanceMethod yX2_countMatched, Cond.selects RX2 yX2_countMatched yX2_countMatched, Cond.code yX2_countMatched cX2_countMatched 6 (some .int), Cond.fieldLink RX2 9 "HatReservations$CommandText" "characters" "[C", Cond.methodLink RX2 85 yJ0_length_8abf5]
def wsX5_run_r3 : List Cond := [Cond.instanceMethod yJ0_length_8abf5, Cond.selects RJ0 yJ0_length_8abf5 yJ0_length_8abf5, Cond.initialized RJ0, Cond.code yJ0_length_8abf5 cJ0_length_8abf5 1 (some .int), Cond.fieldLink RJ0 9 "java/lang/String" "value" "[B", Cond.methodLink RJ0 335 yJ0_coder_7d493, Cond.instanceMethod yJ0_coder_7d493, Cond.selects RJ0 yJ0_coder_7d493 yJ0_coder_7d493, Cond.code yJ0_coder_7d493 cJ0_coder_7d493 1 (some .byte), Cond.fieldLink RJ0 38 "java/lang/String" "COMPACT_STRINGS" "Z", Cond.fieldLink RJ0 15 "java/lang/String" "coder" "B", Cond.methodLink RX2 90 yJ0_charAt_5068e, Cond.instanceMethod yJ0_charAt_5068e, Cond.selects RJ0 yJ0_charAt_5068e yJ0_charAt_5068e, Cond.code yJ0_charAt_5068e cJ0_charAt_5068e 2 (some .char), Cond.methodLink RJ0 492 yJ0_isLatin1_aae02, Cond.instanceMethod yJ0_isLatin1_aae02, Cond.selects RJ0 yJ0_isLatin1_aae02 yJ0_isLatin1_aae02, Cond.code yJ0_isLatin1_aae02 cJ0_isLatin1_aae02 1 (some .boolean), Cond.methodLink RJ0 495 yJ1_charAt_3b067, Cond.static yJ1_charAt_3b067, Cond.initialized RJ1, Cond.code yJ1_charAt_3b067 cJ1_charAt_3b067 2 (some .char), Cond.methodLink RJ1 9 yJ0_checkIndex_df160]
def wsX5_run_r4 : List Cond := [Cond.static yJ0_checkIndex_df160, Cond.code yJ0_checkIndex_df160 cJ0_checkIndex_df160 2 none, Cond.fieldLink RJ0 1053 "jdk/internal/util/Preconditions" "SIOOBE_FORMATTER" "Ljava/util/function/BiFunction;", Cond.methodLink RJ0 1059 yJ3_checkIndex_8e157, Cond.static yJ3_checkIndex_8e157, Cond.initialized RJ3, Cond.code yJ3_checkIndex_8e157 cJ3_checkIndex_8e157 3 (some .int), Cond.methodLink RJ0 498 yJ2_charAt_3b067, Cond.static yJ2_charAt_3b067, Cond.initialized RJ2, Cond.code yJ2_charAt_3b067 cJ2_charAt_3b067 2 (some .char), Cond.methodLink RJ2 67 yJ2_checkIndex_2214a, Cond.static yJ2_checkIndex_2214a, Cond.code yJ2_checkIndex_2214a cJ2_checkIndex_2214a 2 none, Cond.methodLink RJ2 48 yJ2_length_9d52b, Cond.static yJ2_length_9d52b, Cond.code yJ2_length_9d52b cJ2_length_9d52b 1 (some .int), Cond.methodLink RJ2 414 yJ0_checkIndex_df160, Cond.methodLink RJ2 71 yJ2_getChar_3b067, Cond.static yJ2_getChar_3b067, Cond.code yJ2_getChar_3b067 cJ2_getChar_3b067 2 (some .char), Cond.fieldLink RJ2 44 "java/lang/StringUTF16" "$assertionsDisabled" "Z", Cond.fieldLink RJ2 59 "java/lang/StringUTF16" "HI_BYTE_SHIFT" "I", Cond.fieldLink RJ2 63 "java/lang/StringUTF16" "LO_BYTE_SHIFT" "I"]
def wsX5_run_r5 : List Cond := [Cond.methodLink RX2 57 yX2_readNumber, Cond.instanceMethod yX2_readNumber, Cond.selects RX2 yX2_readNumber yX2_readNumber, Cond.code yX2_readNumber cX2_readNumber 4 (some .int), Cond.methodLink RX2 94 yX2_standsOnDigit, Cond.instanceMethod yX2_standsOnDigit, Cond.selects RX2 yX2_standsOnDigit yX2_standsOnDigit, Cond.code yX2_standsOnDigit cX2_standsOnDigit 1 (some .boolean), Cond.methodLink RX2 46 yX2_readSign, Cond.instanceMethod yX2_readSign, Cond.selects RX2 yX2_readSign yX2_readSign, Cond.code yX2_readSign cX2_readSign 2 (some .boolean), Cond.methodLink RX5 274 yX2_empty, Cond.instanceMethod yX2_empty, Cond.selects RX2 yX2_empty yX2_empty, Cond.code yX2_empty cX2_empty 1 none, Cond.methodLink RX5 282 yX4_prepare, Cond.instanceMethod yX4_prepare, Cond.selects RX4 yX4_prepare yX4_prepare, Cond.initialized RX4, Cond.code yX4_prepare cX4_prepare 2 none, Cond.fieldLink RX4 13 "HatReservations$History" "halls" "[LHatReservations$Hall;", Cond.fieldLink RX4 17 "HatReservations$History" "spare" "I", Cond.methodLink RX4 32 yX3_become]
def wsX5_run_r6 : List Cond := [Cond.instanceMethod yX3_become, Cond.selects RX3 yX3_become yX3_become, Cond.initialized RX3, Cond.code yX3_become cX3_become 2 none, Cond.fieldLink RX3 9 "HatReservations$Hall" "feathers" "[I", Cond.methodLink RX3 59 arraycopyName, Cond.native arraycopyName, Cond.static arraycopyName, Cond.initialized "java/lang/System", Cond.fieldLink RX3 15 "HatReservations$Hall" "brims" "[I", Cond.fieldLink RX3 18 "HatReservations$Hall" "hatChairs" "[I", Cond.fieldLink RX3 21 "HatReservations$Hall" "touchTimes" "[I", Cond.fieldLink RX3 24 "HatReservations$Hall" "covers" "[J", Cond.fieldLink RX3 28 "HatReservations$Hall" "coatChairs" "[I", Cond.fieldLink RX3 31 "HatReservations$Hall" "coatPositions" "[I", Cond.fieldLink RX3 34 "HatReservations$Hall" "coatOrders" "[I", Cond.fieldLink RX3 37 "HatReservations$Hall" "coatsEverLeft" "I", Cond.fieldLink RX3 41 "HatReservations$Hall" "guests" "I", Cond.fieldLink RX3 44 "HatReservations$Hall" "time" "I", Cond.fieldLink RX3 47 "HatReservations$Hall" "swept" "I", Cond.fieldLink RX3 50 "HatReservations$Hall" "lapsed" "I", Cond.fieldLink RX3 53 "HatReservations$Hall" "taken" "I", Cond.fieldLink RX3 56 "HatReservations$Hall" "won" "I", Cond.methodLink RX5 298 yX1_refusalIn]
def wsX5_run_r7 : List Cond := [Cond.instanceMethod yX1_refusalIn, Cond.selects RX1 yX1_refusalIn yX1_refusalIn, Cond.initialized RX1, Cond.code yX1_refusalIn cX1_refusalIn 4 (some .int), Cond.fieldLink RX1 68 "HatReservations$1" "$SwitchMap$HatReservations$Command" "[I", Cond.methodLink RX1 74 ⟨"HatReservations$Command", "ordinal", "()I"⟩, Cond.sameMethod "HatReservations$Command" "java/lang/Enum" "ordinal" "()I", Cond.selects RX1 ⟨"HatReservations$Command", "ordinal", "()I"⟩ yJx29ce0_ordinal_8abf5, Cond.instanceMethod yJx29ce0_ordinal_8abf5, Cond.initialized RJx29ce0, Cond.code yJx29ce0_ordinal_8abf5 cJx29ce0_ordinal_8abf5 1 (some .int), Cond.fieldLink RJx29ce0 7 "java/lang/Enum" "ordinal" "I", Cond.methodLink RX1 78 yX3_refusalOfGuest, Cond.instanceMethod yX3_refusalOfGuest, Cond.selects RX3 yX3_refusalOfGuest yX3_refusalOfGuest, Cond.code yX3_refusalOfGuest cX3_refusalOfGuest 3 (some .int), Cond.methodLink RX1 84 yX3_refusalOfHat, Cond.instanceMethod yX3_refusalOfHat, Cond.selects RX3 yX3_refusalOfHat yX3_refusalOfHat, Cond.code yX3_refusalOfHat cX3_refusalOfHat 3 (some .int), Cond.methodLink RX3 65 yX3_hasGuest, Cond.instanceMethod yX3_hasGuest, Cond.selects RX3 yX3_hasGuest yX3_hasGuest, Cond.code yX3_hasGuest cX3_hasGuest 2 (some .boolean)]
def wsX5_run_r8 : List Cond := [Cond.methodLink RX3 69 yX3_hasChair, Cond.static yX3_hasChair, Cond.code yX3_hasChair cX3_hasChair 1 (some .boolean), Cond.methodLink RX3 72 yX3_hatIsPlaced, Cond.instanceMethod yX3_hatIsPlaced, Cond.selects RX3 yX3_hatIsPlaced yX3_hatIsPlaced, Cond.code yX3_hatIsPlaced cX3_hatIsPlaced 2 (some .boolean), Cond.methodLink RX3 75 yX3_covererAt, Cond.instanceMethod yX3_covererAt, Cond.selects RX3 yX3_covererAt yX3_covererAt, Cond.code yX3_covererAt cX3_covererAt 3 (some .int), Cond.methodLink RX1 87 yX3_refusalWithoutHat, Cond.instanceMethod yX3_refusalWithoutHat, Cond.selects RX3 yX3_refusalWithoutHat yX3_refusalWithoutHat, Cond.code yX3_refusalWithoutHat cX3_refusalWithoutHat 2 (some .int), Cond.methodLink RX1 91 yX3_refusalOfCoat, Cond.instanceMethod yX3_refusalOfCoat, Cond.selects RX3 yX3_refusalOfCoat yX3_refusalOfCoat, Cond.code yX3_refusalOfCoat cX3_refusalOfCoat 5 (some .int), Cond.methodLink RX3 79 yX3_coatsOn, Cond.instanceMethod yX3_coatsOn, Cond.selects RX3 yX3_coatsOn yX3_coatsOn, Cond.code yX3_coatsOn cX3_coatsOn 4 (some .int), Cond.methodLink RX1 94 yX3_refusalWithoutCoat]
def wsX5_run_r9 : List Cond := [Cond.instanceMethod yX3_refusalWithoutCoat, Cond.selects RX3 yX3_refusalWithoutCoat yX3_refusalWithoutCoat, Cond.code yX3_refusalWithoutCoat cX3_refusalWithoutCoat 2 (some .int), Cond.methodLink RX1 97 yX3_refusalOfContest, Cond.instanceMethod yX3_refusalOfContest, Cond.selects RX3 yX3_refusalOfContest yX3_refusalOfContest, Cond.code yX3_refusalOfContest cX3_refusalOfContest 3 (some .int), Cond.methodLink RX1 100 yX3_refusalOfPass, Cond.instanceMethod yX3_refusalOfPass, Cond.selects RX3 yX3_refusalOfPass yX3_refusalOfPass, Cond.code yX3_refusalOfPass cX3_refusalOfPass 2 (some .int), Cond.methodLink RX1 103 yX3_refusalOfSweep, Cond.instanceMethod yX3_refusalOfSweep, Cond.selects RX3 yX3_refusalOfSweep yX3_refusalOfSweep, Cond.code yX3_refusalOfSweep cX3_refusalOfSweep 2 (some .int), Cond.methodLink RX1 106 yX3_refusalOfFeather, Cond.instanceMethod yX3_refusalOfFeather, Cond.selects RX3 yX3_refusalOfFeather yX3_refusalOfFeather, Cond.code yX3_refusalOfFeather cX3_refusalOfFeather 2 (some .int), Cond.methodLink RX5 304 yX4_takeBack, Cond.instanceMethod yX4_takeBack, Cond.selects RX4 yX4_takeBack yX4_takeBack, Cond.code yX4_takeBack cX4_takeBack 2 none, Cond.methodLink RX5 309 yX1_carryOutIn]
def wsX5_run_r10 : List Cond := [Cond.instanceMethod yX1_carryOutIn, Cond.selects RX1 yX1_carryOutIn yX1_carryOutIn, Cond.code yX1_carryOutIn cX1_carryOutIn 4 none, Cond.methodLink RX1 109 yX3_welcome, Cond.instanceMethod yX3_welcome, Cond.selects RX3 yX3_welcome yX3_welcome, Cond.code yX3_welcome cX3_welcome 4 (some .int), Cond.methodLink RX1 112 yX3_putHat, Cond.instanceMethod yX3_putHat, Cond.selects RX3 yX3_putHat yX3_putHat, Cond.code yX3_putHat cX3_putHat 5 (some .int), Cond.methodLink RX3 91 yX3_coveredChairs, Cond.instanceMethod yX3_coveredChairs, Cond.selects RX3 yX3_coveredChairs yX3_coveredChairs, Cond.code yX3_coveredChairs cX3_coveredChairs 4 (some .long), Cond.methodLink RX3 95 yX3_reach, Cond.static yX3_reach, Cond.code yX3_reach cX3_reach 12 (some .long), Cond.methodLink RX3 82 yJ13_bitCount_95d88, Cond.static yJ13_bitCount_95d88, Cond.initialized RJ13, Cond.code yJ13_bitCount_95d88 cJ13_bitCount_95d88 2 (some .int), Cond.constantLong RJ13 314 (6148914691236517205), Cond.constantLong RJ13 316 (3689348814741910323)]
def wsX5_run_r11 : List Cond := [Cond.constantLong RJ13 318 (1085102592571150095), Cond.methodLink RX1 115 yX3_giveChairsBack, Cond.instanceMethod yX3_giveChairsBack, Cond.selects RX3 yX3_giveChairsBack yX3_giveChairsBack, Cond.code yX3_giveChairsBack cX3_giveChairsBack 4 (some .int), Cond.methodLink RX3 99 yX3_liftHat, Cond.instanceMethod yX3_liftHat, Cond.selects RX3 yX3_liftHat yX3_liftHat, Cond.code yX3_liftHat cX3_liftHat 4 (some .long), Cond.methodLink RX3 103 yX3_offerChairs, Cond.instanceMethod yX3_offerChairs, Cond.selects RX3 yX3_offerChairs yX3_offerChairs, Cond.code yX3_offerChairs cX3_offerChairs 4 none, Cond.methodLink RX3 111 yX3_offerChair, Cond.instanceMethod yX3_offerChair, Cond.selects RX3 yX3_offerChair yX3_offerChair, Cond.code yX3_offerChair cX3_offerChair 4 none, Cond.methodLink RX3 107 yX3_ownerAt, Cond.instanceMethod yX3_ownerAt, Cond.selects RX3 yX3_ownerAt yX3_ownerAt, Cond.code yX3_ownerAt cX3_ownerAt 4 (some .int), Cond.methodLink RX3 115 yX3_pullCoat, Cond.instanceMethod yX3_pullCoat, Cond.selects RX3 yX3_pullCoat yX3_pullCoat]
def wsX5_run_r12 : List Cond := [Cond.code yX3_pullCoat cX3_pullCoat 4 (some .int), Cond.methodLink RX3 118 yX3_putHat, Cond.methodLink RX1 118 yX3_startIdleTimeAgain, Cond.instanceMethod yX3_startIdleTimeAgain, Cond.selects RX3 yX3_startIdleTimeAgain yX3_startIdleTimeAgain, Cond.code yX3_startIdleTimeAgain cX3_startIdleTimeAgain 3 (some .int), Cond.methodLink RX3 88 yX3_idleTime, Cond.instanceMethod yX3_idleTime, Cond.selects RX3 yX3_idleTime yX3_idleTime, Cond.code yX3_idleTime cX3_idleTime 2 (some .int), Cond.methodLink RX1 121 yX3_putCoat, Cond.instanceMethod yX3_putCoat, Cond.selects RX3 yX3_putCoat yX3_putCoat, Cond.code yX3_putCoat cX3_putCoat 4 (some .int), Cond.methodLink RX1 124 yX3_pullCoat, Cond.methodLink RX1 127 yX3_fightFor, Cond.instanceMethod yX3_fightFor, Cond.selects RX3 yX3_fightFor yX3_fightFor, Cond.code yX3_fightFor cX3_fightFor 6 (some .boolean), Cond.methodLink RX3 125 Lib.Math.max.name, Cond.methodLink RX3 121 yX3_isStronger, Cond.instanceMethod yX3_isStronger, Cond.selects RX3 yX3_isStronger yX3_isStronger, Cond.code yX3_isStronger cX3_isStronger 3 (some .boolean)]
def wsX5_run_r13 : List Cond := [Cond.methodLink RX3 130 yX3_loseChair, Cond.instanceMethod yX3_loseChair, Cond.selects RX3 yX3_loseChair yX3_loseChair, Cond.code yX3_loseChair cX3_loseChair 12 (some .long), Cond.constantLong RX3 134 (-1), Cond.methodLink RX1 131 yX3_letPass, Cond.instanceMethod yX3_letPass, Cond.selects RX3 yX3_letPass yX3_letPass, Cond.code yX3_letPass cX3_letPass 2 (some .int), Cond.methodLink RX1 134 yX3_sweepHats, Cond.instanceMethod yX3_sweepHats, Cond.selects RX3 yX3_sweepHats yX3_sweepHats, Cond.code yX3_sweepHats cX3_sweepHats 6 (some .int), Cond.methodLink RX1 137 yX3_gainFeather, Cond.instanceMethod yX3_gainFeather, Cond.selects RX3 yX3_gainFeather yX3_gainFeather, Cond.code yX3_gainFeather cX3_gainFeather 2 (some .int), Cond.methodLink RX5 313 yX4_keep, Cond.instanceMethod yX4_keep, Cond.selects RX4 yX4_keep yX4_keep, Cond.code yX4_keep cX4_keep 1 none, Cond.fieldLink RX4 21 "HatReservations$History" "count" "I", Cond.methodLink RX4 35 Lib.Math.min.name, Cond.static Lib.Math.min.name]
def wsX5_run_r14 : List Cond := [Cond.code Lib.Math.min.name Lib.Math.min.code 2 (some .int)]
def wsX5_run : List Cond := .code yX5_run cX5_run 7 (some .int) :: ((wsX5_run_r1 ++ (wsX5_run_r2 ++ (wsX5_run_r3 ++ (wsX5_run_r4 ++ (wsX5_run_r5 ++ (wsX5_run_r6 ++ (wsX5_run_r7 ++ (wsX5_run_r8 ++ (wsX5_run_r9 ++ (wsX5_run_r10 ++ (wsX5_run_r11 ++ (wsX5_run_r12 ++ (wsX5_run_r13 ++ wsX5_run_r14))))))))))))) ++ wsX50 ++ wsX20 ++ wsJ00 ++ wsX40 ++ wsX30 ++ (vx_atS RX5 62 "java/lang/IllegalArgumentException" ["java/lang/RuntimeException", "java/lang/Exception"]).filter goodWord ++ (vx_atM "java/lang/ArrayIndexOutOfBoundsException" ["java/lang/IndexOutOfBoundsException", "java/lang/RuntimeException", "java/lang/Exception"]).filter goodWord ++ (vx_atS RX5 69 "java/lang/IllegalStateException" ["java/lang/RuntimeException", "java/lang/Exception"]).filter goodWord)
def wsX5_errorPosition : List Cond := .code yX5_errorPosition cX5_errorPosition 1 (some .int) :: ([.classLink RX5 170 "java/util/NoSuchElementException", .initialized "java/util/NoSuchElementException", .fieldLink RX5 45 "HatReservations" "lastErrorPosition" "I"] ++ wsX50 ++ (vx_atS RX5 174 "java/util/NoSuchElementException" ["java/lang/RuntimeException", "java/lang/Exception"]).filter goodWord)
def wsX5_failedCommand : List Cond := .code yX5_failedCommand cX5_failedCommand 1 (some .int) :: ([.classLink RX5 170 "java/util/NoSuchElementException", .initialized "java/util/NoSuchElementException", .fieldLink RX5 48 "HatReservations" "lastFailedCommand" "I"] ++ wsX50 ++ (vx_atS RX5 174 "java/util/NoSuchElementException" ["java/lang/RuntimeException", "java/lang/Exception"]).filter goodWord)
def wsX5_failedException : List Cond := .code yX5_failedException cX5_failedException 1 (some .int) :: ([.classLink RX5 170 "java/util/NoSuchElementException", .initialized "java/util/NoSuchElementException", .fieldLink RX5 51 "HatReservations" "lastFailedException" "I"] ++ wsX50 ++ (vx_atS RX5 174 "java/util/NoSuchElementException" ["java/lang/RuntimeException", "java/lang/Exception"]).filter goodWord)
def wsX5_describeRow : List Cond := .code yX5_describeRow cX5_describeRow 3 (some .int) :: ([.fieldLink RX5 33 "HatReservations" "line" "[C", .fieldLink RX5 10 "HatReservations" "hall" "LHatReservations$Hall;", .fieldLink RX5 37 "HatReservations" "lineLength" "I", .methodLink RX5 233 yX5_requireRow, .static yX5_requireRow, .initialized RX5, .code yX5_requireRow cX5_requireRow 1 none, .classLink RX5 81 "java/lang/IndexOutOfBoundsException", .initialized "java/lang/IndexOutOfBoundsException", .methodLink RX5 320 yX3_signOf, .instanceMethod yX3_signOf, .selects RX3 yX3_signOf yX3_signOf, .initialized RX3, .code yX3_signOf cX3_signOf 3 (some .char), .fieldLink RX3 18 "HatReservations$Hall" "hatChairs" "[I", .methodLink RX3 75 yX3_covererAt, .instanceMethod yX3_covererAt, .selects RX3 yX3_covererAt yX3_covererAt, .code yX3_covererAt cX3_covererAt 3 (some .int), .fieldLink RX3 24 "HatReservations$Hall" "covers" "[J"] ++ wsX50 ++ wsX30 ++ (vx_atM "java/lang/ArrayIndexOutOfBoundsException" ["java/lang/IndexOutOfBoundsException", "java/lang/RuntimeException", "java/lang/Exception"]).filter goodWord ++ (vx_atS RX5 85 "java/lang/IndexOutOfBoundsException" ["java/lang/RuntimeException", "java/lang/Exception"]).filter goodWord)
def wsX5_lineAt : List Cond := .code yX5_lineAt cX5_lineAt 2 (some .char) :: ([.classLink RX5 81 "java/lang/IndexOutOfBoundsException", .initialized "java/lang/IndexOutOfBoundsException", .fieldLink RX5 37 "HatReservations" "lineLength" "I", .fieldLink RX5 33 "HatReservations" "line" "[C"] ++ wsX50 ++ (vx_atS RX5 85 "java/lang/IndexOutOfBoundsException" ["java/lang/RuntimeException", "java/lang/Exception"]).filter goodWord ++ (vx_atM "java/lang/ArrayIndexOutOfBoundsException" ["java/lang/IndexOutOfBoundsException", "java/lang/RuntimeException", "java/lang/Exception"]).filter goodWord)
def wsX5_meanCover : List Cond := .code yX5_meanCover cX5_meanCover 2 (some .double) :: ([.classLink RX5 329 "java/lang/ArithmeticException", .initialized "java/lang/ArithmeticException", .fieldLink RX5 10 "HatReservations" "hall" "LHatReservations$Hall;", .methodLink RX5 326 yX3_countPlaced, .instanceMethod yX3_countPlaced, .selects RX3 yX3_countPlaced yX3_countPlaced, .initialized RX3, .code yX3_countPlaced cX3_countPlaced 3 (some .int), .methodLink RX3 72 yX3_hatIsPlaced, .instanceMethod yX3_hatIsPlaced, .selects RX3 yX3_hatIsPlaced yX3_hatIsPlaced, .code yX3_hatIsPlaced cX3_hatIsPlaced 2 (some .boolean), .fieldLink RX3 18 "HatReservations$Hall" "hatChairs" "[I", .methodLink RX5 227 yX3_countByChair, .instanceMethod yX3_countByChair, .selects RX3 yX3_countByChair yX3_countByChair, .code yX3_countByChair cX3_countByChair 3 (some .int), .methodLink RX3 75 yX3_covererAt, .instanceMethod yX3_covererAt, .selects RX3 yX3_covererAt yX3_covererAt, .code yX3_covererAt cX3_covererAt 3 (some .int), .fieldLink RX3 24 "HatReservations$Hall" "covers" "[J"] ++ wsX50 ++ wsX30 ++ (vx_atS RX5 331 "java/lang/ArithmeticException" ["java/lang/RuntimeException", "java/lang/Exception"]).filter goodWord ++ (vx_atM "java/lang/ArrayIndexOutOfBoundsException" ["java/lang/IndexOutOfBoundsException", "java/lang/RuntimeException", "java/lang/Exception"]).filter goodWord)
def wsX5_coveredShare : List Cond := .code yX5_coveredShare cX5_coveredShare 1 (some .float) :: ([.fieldLink RX5 10 "HatReservations" "hall" "LHatReservations$Hall;", .constantFloat RX5 332 (1109393408), .methodLink RX5 227 yX3_countByChair, .instanceMethod yX3_countByChair, .selects RX3 yX3_countByChair yX3_countByChair, .initialized RX3, .code yX3_countByChair cX3_countByChair 3 (some .int), .methodLink RX3 75 yX3_covererAt, .instanceMethod yX3_covererAt, .selects RX3 yX3_covererAt yX3_covererAt, .code yX3_covererAt cX3_covererAt 3 (some .int), .fieldLink RX3 24 "HatReservations$Hall" "covers" "[J"] ++ wsX50 ++ wsX30 ++ (vx_atM "java/lang/ArrayIndexOutOfBoundsException" ["java/lang/IndexOutOfBoundsException", "java/lang/RuntimeException", "java/lang/Exception"]).filter goodWord)
def wsX5_undo_r1 : List Cond := [Cond.classLink RX5 65 "java/lang/IllegalStateException", Cond.initialized "java/lang/IllegalStateException", Cond.fieldLink RX5 22 "HatReservations" "history" "LHatReservations$History;", Cond.fieldLink RX5 339 "HatReservations$History" "count" "I", Cond.fieldLink RX5 10 "HatReservations" "hall" "LHatReservations$Hall;", Cond.methodLink RX5 344 yX4_stepBack, Cond.instanceMethod yX4_stepBack, Cond.selects RX4 yX4_stepBack yX4_stepBack, Cond.initialized RX4, Cond.code yX4_stepBack cX4_stepBack 2 (some .int), Cond.fieldLink RX4 17 "HatReservations$History" "spare" "I", Cond.fieldLink RX4 13 "HatReservations$History" "halls" "[LHatReservations$Hall;", Cond.fieldLink RX4 21 "HatReservations$History" "count" "I", Cond.methodLink RX4 32 yX3_become, Cond.instanceMethod yX3_become, Cond.selects RX3 yX3_become yX3_become, Cond.initialized RX3, Cond.code yX3_become cX3_become 2 none, Cond.fieldLink RX3 9 "HatReservations$Hall" "feathers" "[I", Cond.methodLink RX3 59 arraycopyName, Cond.native arraycopyName, Cond.static arraycopyName, Cond.initialized "java/lang/System", Cond.fieldLink RX3 15 "HatReservations$Hall" "brims" "[I"]
def wsX5_undo_r2 : List Cond := [Cond.fieldLink RX3 18 "HatReservations$Hall" "hatChairs" "[I", Cond.fieldLink RX3 21 "HatReservations$Hall" "touchTimes" "[I", Cond.fieldLink RX3 24 "HatReservations$Hall" "covers" "[J", Cond.fieldLink RX3 28 "HatReservations$Hall" "coatChairs" "[I", Cond.fieldLink RX3 31 "HatReservations$Hall" "coatPositions" "[I", Cond.fieldLink RX3 34 "HatReservations$Hall" "coatOrders" "[I", Cond.fieldLink RX3 37 "HatReservations$Hall" "coatsEverLeft" "I", Cond.fieldLink RX3 41 "HatReservations$Hall" "guests" "I", Cond.fieldLink RX3 44 "HatReservations$Hall" "time" "I", Cond.fieldLink RX3 47 "HatReservations$Hall" "swept" "I", Cond.fieldLink RX3 50 "HatReservations$Hall" "lapsed" "I", Cond.fieldLink RX3 53 "HatReservations$Hall" "taken" "I", Cond.fieldLink RX3 56 "HatReservations$Hall" "won" "I"]
def wsX5_undo : List Cond := .code yX5_undo cX5_undo 1 (some .int) :: ((wsX5_undo_r1 ++ wsX5_undo_r2) ++ wsX50 ++ wsX40 ++ wsX30 ++ (vx_atS RX5 69 "java/lang/IllegalStateException" ["java/lang/RuntimeException", "java/lang/Exception"]).filter goodWord)
def wsX5_save_r1 : List Cond := [Cond.fieldLink RX5 16 "HatReservations" "snapshot" "LHatReservations$Hall;", Cond.fieldLink RX5 10 "HatReservations" "hall" "LHatReservations$Hall;", Cond.fieldLink RX5 41 "HatReservations" "hasSnapshot" "Z", Cond.methodLink RX5 348 yX3_become, Cond.instanceMethod yX3_become, Cond.selects RX3 yX3_become yX3_become, Cond.initialized RX3, Cond.code yX3_become cX3_become 2 none, Cond.fieldLink RX3 9 "HatReservations$Hall" "feathers" "[I", Cond.methodLink RX3 59 arraycopyName, Cond.native arraycopyName, Cond.static arraycopyName, Cond.initialized "java/lang/System", Cond.fieldLink RX3 15 "HatReservations$Hall" "brims" "[I", Cond.fieldLink RX3 18 "HatReservations$Hall" "hatChairs" "[I", Cond.fieldLink RX3 21 "HatReservations$Hall" "touchTimes" "[I", Cond.fieldLink RX3 24 "HatReservations$Hall" "covers" "[J", Cond.fieldLink RX3 28 "HatReservations$Hall" "coatChairs" "[I", Cond.fieldLink RX3 31 "HatReservations$Hall" "coatPositions" "[I", Cond.fieldLink RX3 34 "HatReservations$Hall" "coatOrders" "[I", Cond.fieldLink RX3 37 "HatReservations$Hall" "coatsEverLeft" "I", Cond.fieldLink RX3 41 "HatReservations$Hall" "guests" "I", Cond.fieldLink RX3 44 "HatReservations$Hall" "time" "I", Cond.fieldLink RX3 47 "HatReservations$Hall" "swept" "I"]
def wsX5_save_r2 : List Cond := [Cond.fieldLink RX3 50 "HatReservations$Hall" "lapsed" "I", Cond.fieldLink RX3 53 "HatReservations$Hall" "taken" "I", Cond.fieldLink RX3 56 "HatReservations$Hall" "won" "I", Cond.methodLink RX5 326 yX3_countPlaced, Cond.instanceMethod yX3_countPlaced, Cond.selects RX3 yX3_countPlaced yX3_countPlaced, Cond.code yX3_countPlaced cX3_countPlaced 3 (some .int), Cond.methodLink RX3 72 yX3_hatIsPlaced, Cond.instanceMethod yX3_hatIsPlaced, Cond.selects RX3 yX3_hatIsPlaced yX3_hatIsPlaced, Cond.code yX3_hatIsPlaced cX3_hatIsPlaced 2 (some .boolean)]
def wsX5_save : List Cond := .code yX5_save cX5_save 1 (some .int) :: ((wsX5_save_r1 ++ wsX5_save_r2) ++ wsX50 ++ wsX30 ++ (vx_atM "java/lang/ArrayIndexOutOfBoundsException" ["java/lang/IndexOutOfBoundsException", "java/lang/RuntimeException", "java/lang/Exception"]).filter goodWord)
def wsX5_restore_r1 : List Cond := [Cond.classLink RX5 65 "java/lang/IllegalStateException", Cond.initialized "java/lang/IllegalStateException", Cond.fieldLink RX5 41 "HatReservations" "hasSnapshot" "Z", Cond.fieldLink RX5 10 "HatReservations" "hall" "LHatReservations$Hall;", Cond.fieldLink RX5 16 "HatReservations" "snapshot" "LHatReservations$Hall;", Cond.fieldLink RX5 22 "HatReservations" "history" "LHatReservations$History;", Cond.methodLink RX5 348 yX3_become, Cond.instanceMethod yX3_become, Cond.selects RX3 yX3_become yX3_become, Cond.initialized RX3, Cond.code yX3_become cX3_become 2 none, Cond.fieldLink RX3 9 "HatReservations$Hall" "feathers" "[I", Cond.methodLink RX3 59 arraycopyName, Cond.native arraycopyName, Cond.static arraycopyName, Cond.initialized "java/lang/System", Cond.fieldLink RX3 15 "HatReservations$Hall" "brims" "[I", Cond.fieldLink RX3 18 "HatReservations$Hall" "hatChairs" "[I", Cond.fieldLink RX3 21 "HatReservations$Hall" "touchTimes" "[I", Cond.fieldLink RX3 24 "HatReservations$Hall" "covers" "[J", Cond.fieldLink RX3 28 "HatReservations$Hall" "coatChairs" "[I", Cond.fieldLink RX3 31 "HatReservations$Hall" "coatPositions" "[I", Cond.fieldLink RX3 34 "HatReservations$Hall" "coatOrders" "[I", Cond.fieldLink RX3 37 "HatReservations$Hall" "coatsEverLeft" "I"]
def wsX5_restore_r2 : List Cond := [Cond.fieldLink RX3 41 "HatReservations$Hall" "guests" "I", Cond.fieldLink RX3 44 "HatReservations$Hall" "time" "I", Cond.fieldLink RX3 47 "HatReservations$Hall" "swept" "I", Cond.fieldLink RX3 50 "HatReservations$Hall" "lapsed" "I", Cond.fieldLink RX3 53 "HatReservations$Hall" "taken" "I", Cond.fieldLink RX3 56 "HatReservations$Hall" "won" "I", Cond.methodLink RX5 353 yX4_forget, Cond.instanceMethod yX4_forget, Cond.selects RX4 yX4_forget yX4_forget, Cond.initialized RX4, Cond.code yX4_forget cX4_forget 1 none, Cond.fieldLink RX4 21 "HatReservations$History" "count" "I", Cond.methodLink RX5 326 yX3_countPlaced, Cond.instanceMethod yX3_countPlaced, Cond.selects RX3 yX3_countPlaced yX3_countPlaced, Cond.code yX3_countPlaced cX3_countPlaced 3 (some .int), Cond.methodLink RX3 72 yX3_hatIsPlaced, Cond.instanceMethod yX3_hatIsPlaced, Cond.selects RX3 yX3_hatIsPlaced yX3_hatIsPlaced, Cond.code yX3_hatIsPlaced cX3_hatIsPlaced 2 (some .boolean)]
def wsX5_restore : List Cond := .code yX5_restore cX5_restore 1 (some .int) :: ((wsX5_restore_r1 ++ wsX5_restore_r2) ++ wsX50 ++ wsX30 ++ wsX40 ++ (vx_atS RX5 69 "java/lang/IllegalStateException" ["java/lang/RuntimeException", "java/lang/Exception"]).filter goodWord ++ (vx_atM "java/lang/ArrayIndexOutOfBoundsException" ["java/lang/IndexOutOfBoundsException", "java/lang/RuntimeException", "java/lang/Exception"]).filter goodWord)
def wsJ2_newBytesLength_0f7a4 : List Cond := .code yJ2_newBytesLength_0f7a4 cJ2_newBytesLength_0f7a4 1 (some .int) :: ([.constant RJ2 20 (1073741823)])
def wsJ2_newBytesFor_77867 : List Cond := .code yJ2_newBytesFor_77867 cJ2_newBytesFor_77867 1 (some (.array .byte)) :: ([.arrayClass .byte, .methodLink RJ2 11 yJ2_newBytesLength_0f7a4, .static yJ2_newBytesLength_0f7a4, .initialized RJ2, .code yJ2_newBytesLength_0f7a4 cJ2_newBytesLength_0f7a4 1 (some .int), .constant RJ2 20 (1073741823)])
def wsJ5_init_d00df : List Cond := .code yJ5_init_d00df cJ5_init_d00df 2 none :: ([.methodLink RJ5 3 objectInit, .instanceMethod objectInit, .code objectInit ⟨#[0xb1]⟩ 1 none, .fieldLink RJ5 18 "java/lang/String" "COMPACT_STRINGS" "Z", .arrayClass .byte, .fieldLink RJ5 15 "java/lang/AbstractStringBuilder" "value" "[B", .fieldLink RJ5 22 "java/lang/AbstractStringBuilder" "coder" "B", .methodLink RJ5 26 yJ2_newBytesFor_77867, .static yJ2_newBytesFor_77867, .initialized RJ2, .code yJ2_newBytesFor_77867 cJ2_newBytesFor_77867 1 (some (.array .byte)), .methodLink RJ2 11 yJ2_newBytesLength_0f7a4, .static yJ2_newBytesLength_0f7a4, .code yJ2_newBytesLength_0f7a4 cJ2_newBytesLength_0f7a4 1 (some .int), .constant RJ2 20 (1073741823)] ++ wsJ40)
def wsJ5_length_8abf5 : List Cond := .code yJ5_length_8abf5 cJ5_length_8abf5 1 (some .int) :: ([.fieldLink RJ5 79 "java/lang/AbstractStringBuilder" "count" "I"] ++ wsJ40)
def wsJ8_hugeLength_7cf53 : List Cond := .code yJ8_hugeLength_7cf53 cJ8_hugeLength_7cf53 3 (some .int) :: ([.constant RJ8 200 (2147483639)])
def wsJ8_newLength_cabcc : List Cond := .code yJ8_newLength_cabcc cJ8_newLength_cabcc 4 (some .int) :: ([.methodLink RJ8 194 Lib.Math.max.name, .static Lib.Math.max.name, .initialized "java/lang/Math", .code Lib.Math.max.name Lib.Math.max.code 2 (some .int), .constant RJ8 200 (2147483639), .methodLink RJ8 201 yJ8_hugeLength_7cf53, .static yJ8_hugeLength_7cf53, .initialized RJ8, .code yJ8_hugeLength_7cf53 cJ8_hugeLength_7cf53 3 (some .int)])
def wsJ5_newCapacity_0f7a4 : List Cond := .code yJ5_newCapacity_0f7a4 cJ5_newCapacity_0f7a4 6 (some .int) :: ([.fieldLink RJ5 15 "java/lang/AbstractStringBuilder" "value" "[B", .fieldLink RJ5 22 "java/lang/AbstractStringBuilder" "coder" "B", .constant RJ5 39 (2147483647), .methodLink RJ5 114 yJ8_newLength_cabcc, .static yJ8_newLength_cabcc, .initialized RJ8, .code yJ8_newLength_cabcc cJ8_newLength_cabcc 4 (some .int), .methodLink RJ8 194 Lib.Math.max.name, .static Lib.Math.max.name, .initialized "java/lang/Math", .code Lib.Math.max.name Lib.Math.max.code 2 (some .int), .constant RJ8 200 (2147483639), .methodLink RJ8 201 yJ8_hugeLength_7cf53, .static yJ8_hugeLength_7cf53, .code yJ8_hugeLength_7cf53 cJ8_hugeLength_7cf53 3 (some .int)] ++ wsJ40)
def wsJ7_copyOf_9075b : List Cond := .code yJ7_copyOf_9075b cJ7_copyOf_9075b 3 (some (.array .byte)) :: ([.methodLink RJ7 310 ⟨"[B", "clone", "()Ljava/lang/Object;"⟩, .sameMethod "[B" "java/lang/Object" "clone" "()Ljava/lang/Object;", .native ⟨"java/lang/Object", "clone", "()Ljava/lang/Object;"⟩, .instanceMethod ⟨"java/lang/Object", "clone", "()Ljava/lang/Object;"⟩, .selects "[B" ⟨"[B", "clone", "()Ljava/lang/Object;"⟩ ⟨"java/lang/Object", "clone", "()Ljava/lang/Object;"⟩, .classLink RJ7 311 "[B", .arrayClass .byte, .methodLink RJ7 304 Lib.Math.min.name, .static Lib.Math.min.name, .initialized "java/lang/Math", .code Lib.Math.min.name Lib.Math.min.code 2 (some .int), .methodLink RJ7 150 arraycopyName, .native arraycopyName, .static arraycopyName, .initialized "java/lang/System"])
def wsJ5_ensureCapacityInternal_d00df_r1 : List Cond := [Cond.fieldLink RJ5 15 "java/lang/AbstractStringBuilder" "value" "[B", Cond.fieldLink RJ5 22 "java/lang/AbstractStringBuilder" "coder" "B", Cond.methodLink RJ5 104 ⟨"java/lang/AbstractStringBuilder", "newCapacity", "(I)I"⟩, Cond.sameMethod "java/lang/AbstractStringBuilder" "java/lang/AbstractStringBuilder" "newCapacity" "(I)I", Cond.selects RJ4 ⟨"java/lang/AbstractStringBuilder", "newCapacity", "(I)I"⟩ yJ5_newCapacity_0f7a4, Cond.instanceMethod yJ5_newCapacity_0f7a4, Cond.initialized RJ5, Cond.code yJ5_newCapacity_0f7a4 cJ5_newCapacity_0f7a4 6 (some .int), Cond.constant RJ5 39 (2147483647), Cond.methodLink RJ5 114 yJ8_newLength_cabcc, Cond.static yJ8_newLength_cabcc, Cond.initialized RJ8, Cond.code yJ8_newLength_cabcc cJ8_newLength_cabcc 4 (some .int), Cond.methodLink RJ8 194 Lib.Math.max.name, Cond.static Lib.Math.max.name, Cond.initialized "java/lang/Math", Cond.code Lib.Math.max.name Lib.Math.max.code 2 (some .int), Cond.constant RJ8 200 (2147483639), Cond.methodLink RJ8 201 yJ8_hugeLength_7cf53, Cond.static yJ8_hugeLength_7cf53, Cond.code yJ8_hugeLength_7cf53 cJ8_hugeLength_7cf53 3 (some .int), Cond.methodLink RJ5 108 yJ7_copyOf_9075b, Cond.static yJ7_copyOf_9075b, Cond.initialized RJ7]
def wsJ5_ensureCapacityInternal_d00df_r2 : List Cond := [Cond.code yJ7_copyOf_9075b cJ7_copyOf_9075b 3 (some (.array .byte)), Cond.methodLink RJ7 310 ⟨"[B", "clone", "()Ljava/lang/Object;"⟩, Cond.sameMethod "[B" "java/lang/Object" "clone" "()Ljava/lang/Object;", Cond.native ⟨"java/lang/Object", "clone", "()Ljava/lang/Object;"⟩, Cond.instanceMethod ⟨"java/lang/Object", "clone", "()Ljava/lang/Object;"⟩, Cond.selects "[B" ⟨"[B", "clone", "()Ljava/lang/Object;"⟩ ⟨"java/lang/Object", "clone", "()Ljava/lang/Object;"⟩, Cond.classLink RJ7 311 "[B", Cond.arrayClass .byte, Cond.methodLink RJ7 304 Lib.Math.min.name, Cond.static Lib.Math.min.name, Cond.code Lib.Math.min.name Lib.Math.min.code 2 (some .int), Cond.methodLink RJ7 150 arraycopyName, Cond.native arraycopyName, Cond.static arraycopyName, Cond.initialized "java/lang/System"]
def wsJ5_ensureCapacityInternal_d00df : List Cond := .code yJ5_ensureCapacityInternal_d00df cJ5_ensureCapacityInternal_d00df 3 none :: ((wsJ5_ensureCapacityInternal_d00df_r1 ++ wsJ5_ensureCapacityInternal_d00df_r2) ++ wsJ40)
def wsJ5_isLatin1_aae02 : List Cond := .code yJ5_isLatin1_aae02 cJ5_isLatin1_aae02 1 (some .boolean) :: ([.fieldLink RJ5 18 "java/lang/String" "COMPACT_STRINGS" "Z", .fieldLink RJ5 22 "java/lang/AbstractStringBuilder" "coder" "B"] ++ wsJ40)
def wsJ3_checkFromIndexSize_8c36e : List Cond := .code yJ3_checkFromIndexSize_8c36e cJ3_checkFromIndexSize_8c36e 4 (some .int) :: ([])
def wsJ0_checkBoundsOffCount_cabcc : List Cond := .code yJ0_checkBoundsOffCount_cabcc cJ0_checkBoundsOffCount_cabcc 3 (some .int) :: ([.fieldLink RJ0 1053 "jdk/internal/util/Preconditions" "SIOOBE_FORMATTER" "Ljava/util/function/BiFunction;", .methodLink RJ0 1065 yJ3_checkFromIndexSize_8c36e, .static yJ3_checkFromIndexSize_8c36e, .initialized RJ3, .code yJ3_checkFromIndexSize_8c36e cJ3_checkFromIndexSize_8c36e 4 (some .int)])
def wsJ2_checkBoundsOffCount_d044e : List Cond := .code yJ2_checkBoundsOffCount_d044e cJ2_checkBoundsOffCount_d044e 3 none :: ([.methodLink RJ2 48 yJ2_length_9d52b, .static yJ2_length_9d52b, .initialized RJ2, .code yJ2_length_9d52b cJ2_length_9d52b 1 (some .int), .methodLink RJ2 419 yJ0_checkBoundsOffCount_cabcc, .static yJ0_checkBoundsOffCount_cabcc, .initialized RJ0, .code yJ0_checkBoundsOffCount_cabcc cJ0_checkBoundsOffCount_cabcc 3 (some .int), .fieldLink RJ0 1053 "jdk/internal/util/Preconditions" "SIOOBE_FORMATTER" "Ljava/util/function/BiFunction;", .methodLink RJ0 1065 yJ3_checkFromIndexSize_8c36e, .static yJ3_checkFromIndexSize_8c36e, .initialized RJ3, .code yJ3_checkFromIndexSize_8c36e cJ3_checkFromIndexSize_8c36e 4 (some .int)])
def wsJ2_putChar_b72d1 : List Cond := .code yJ2_putChar_b72d1 cJ2_putChar_b72d1 3 none :: ([.fieldLink RJ2 44 "java/lang/StringUTF16" "$assertionsDisabled" "Z", .fieldLink RJ2 59 "java/lang/StringUTF16" "HI_BYTE_SHIFT" "I", .fieldLink RJ2 63 "java/lang/StringUTF16" "LO_BYTE_SHIFT" "I", .methodLink RJ2 48 yJ2_length_9d52b, .static yJ2_length_9d52b, .initialized RJ2, .code yJ2_length_9d52b cJ2_length_9d52b 1 (some .int)])
def wsJ2_inflate_0e8fd : List Cond := .code yJ2_inflate_0e8fd cJ2_inflate_0e8fd 6 none :: ([.methodLink RJ2 173 yJ2_checkBoundsOffCount_d044e, .static yJ2_checkBoundsOffCount_d044e, .initialized RJ2, .code yJ2_checkBoundsOffCount_d044e cJ2_checkBoundsOffCount_d044e 3 none, .methodLink RJ2 48 yJ2_length_9d52b, .static yJ2_length_9d52b, .code yJ2_length_9d52b cJ2_length_9d52b 1 (some .int), .methodLink RJ2 419 yJ0_checkBoundsOffCount_cabcc, .static yJ0_checkBoundsOffCount_cabcc, .initialized RJ0, .code yJ0_checkBoundsOffCount_cabcc cJ0_checkBoundsOffCount_cabcc 3 (some .int), .fieldLink RJ0 1053 "jdk/internal/util/Preconditions" "SIOOBE_FORMATTER" "Ljava/util/function/BiFunction;", .methodLink RJ0 1065 yJ3_checkFromIndexSize_8c36e, .static yJ3_checkFromIndexSize_8c36e, .initialized RJ3, .code yJ3_checkFromIndexSize_8c36e cJ3_checkFromIndexSize_8c36e 4 (some .int), .methodLink RJ2 111 yJ2_putChar_b72d1, .static yJ2_putChar_b72d1, .code yJ2_putChar_b72d1 cJ2_putChar_b72d1 3 none, .fieldLink RJ2 44 "java/lang/StringUTF16" "$assertionsDisabled" "Z", .fieldLink RJ2 59 "java/lang/StringUTF16" "HI_BYTE_SHIFT" "I", .fieldLink RJ2 63 "java/lang/StringUTF16" "LO_BYTE_SHIFT" "I"])
def wsJ1_inflate_0e8fd_r1 : List Cond := [Cond.methodLink RJ1 240 yJ2_inflate_0e8fd, Cond.static yJ2_inflate_0e8fd, Cond.initialized RJ2, Cond.code yJ2_inflate_0e8fd cJ2_inflate_0e8fd 6 none, Cond.methodLink RJ2 173 yJ2_checkBoundsOffCount_d044e, Cond.static yJ2_checkBoundsOffCount_d044e, Cond.code yJ2_checkBoundsOffCount_d044e cJ2_checkBoundsOffCount_d044e 3 none, Cond.methodLink RJ2 48 yJ2_length_9d52b, Cond.static yJ2_length_9d52b, Cond.code yJ2_length_9d52b cJ2_length_9d52b 1 (some .int), Cond.methodLink RJ2 419 yJ0_checkBoundsOffCount_cabcc, Cond.static yJ0_checkBoundsOffCount_cabcc, Cond.initialized RJ0, Cond.code yJ0_checkBoundsOffCount_cabcc cJ0_checkBoundsOffCount_cabcc 3 (some .int), Cond.fieldLink RJ0 1053 "jdk/internal/util/Preconditions" "SIOOBE_FORMATTER" "Ljava/util/function/BiFunction;", Cond.methodLink RJ0 1065 yJ3_checkFromIndexSize_8c36e, Cond.static yJ3_checkFromIndexSize_8c36e, Cond.initialized RJ3, Cond.code yJ3_checkFromIndexSize_8c36e cJ3_checkFromIndexSize_8c36e 4 (some .int), Cond.methodLink RJ2 111 yJ2_putChar_b72d1, Cond.static yJ2_putChar_b72d1, Cond.code yJ2_putChar_b72d1 cJ2_putChar_b72d1 3 none, Cond.fieldLink RJ2 44 "java/lang/StringUTF16" "$assertionsDisabled" "Z", Cond.fieldLink RJ2 59 "java/lang/StringUTF16" "HI_BYTE_SHIFT" "I"]
def wsJ1_inflate_0e8fd_r2 : List Cond := [Cond.fieldLink RJ2 63 "java/lang/StringUTF16" "LO_BYTE_SHIFT" "I"]
def wsJ1_inflate_0e8fd : List Cond := .code yJ1_inflate_0e8fd cJ1_inflate_0e8fd 5 none :: ((wsJ1_inflate_0e8fd_r1 ++ wsJ1_inflate_0e8fd_r2))
def wsJ5_inflate_da8c8_r1 : List Cond := [Cond.fieldLink RJ5 15 "java/lang/AbstractStringBuilder" "value" "[B", Cond.fieldLink RJ5 79 "java/lang/AbstractStringBuilder" "count" "I", Cond.fieldLink RJ5 22 "java/lang/AbstractStringBuilder" "coder" "B", Cond.methodLink RJ5 83 ⟨"java/lang/AbstractStringBuilder", "isLatin1", "()Z"⟩, Cond.sameMethod "java/lang/AbstractStringBuilder" "java/lang/AbstractStringBuilder" "isLatin1" "()Z", Cond.selects RJ4 ⟨"java/lang/AbstractStringBuilder", "isLatin1", "()Z"⟩ yJ5_isLatin1_aae02, Cond.instanceMethod yJ5_isLatin1_aae02, Cond.initialized RJ5, Cond.code yJ5_isLatin1_aae02 cJ5_isLatin1_aae02 1 (some .boolean), Cond.fieldLink RJ5 18 "java/lang/String" "COMPACT_STRINGS" "Z", Cond.methodLink RJ5 26 yJ2_newBytesFor_77867, Cond.static yJ2_newBytesFor_77867, Cond.initialized RJ2, Cond.code yJ2_newBytesFor_77867 cJ2_newBytesFor_77867 1 (some (.array .byte)), Cond.arrayClass .byte, Cond.methodLink RJ2 11 yJ2_newBytesLength_0f7a4, Cond.static yJ2_newBytesLength_0f7a4, Cond.code yJ2_newBytesLength_0f7a4 cJ2_newBytesLength_0f7a4 1 (some .int), Cond.constant RJ2 20 (1073741823), Cond.methodLink RJ5 125 yJ1_inflate_0e8fd, Cond.static yJ1_inflate_0e8fd, Cond.initialized RJ1, Cond.code yJ1_inflate_0e8fd cJ1_inflate_0e8fd 5 none, Cond.methodLink RJ1 240 yJ2_inflate_0e8fd]
def wsJ5_inflate_da8c8_r2 : List Cond := [Cond.static yJ2_inflate_0e8fd, Cond.code yJ2_inflate_0e8fd cJ2_inflate_0e8fd 6 none, Cond.methodLink RJ2 173 yJ2_checkBoundsOffCount_d044e, Cond.static yJ2_checkBoundsOffCount_d044e, Cond.code yJ2_checkBoundsOffCount_d044e cJ2_checkBoundsOffCount_d044e 3 none, Cond.methodLink RJ2 48 yJ2_length_9d52b, Cond.static yJ2_length_9d52b, Cond.code yJ2_length_9d52b cJ2_length_9d52b 1 (some .int), Cond.methodLink RJ2 419 yJ0_checkBoundsOffCount_cabcc, Cond.static yJ0_checkBoundsOffCount_cabcc, Cond.initialized RJ0, Cond.code yJ0_checkBoundsOffCount_cabcc cJ0_checkBoundsOffCount_cabcc 3 (some .int), Cond.fieldLink RJ0 1053 "jdk/internal/util/Preconditions" "SIOOBE_FORMATTER" "Ljava/util/function/BiFunction;", Cond.methodLink RJ0 1065 yJ3_checkFromIndexSize_8c36e, Cond.static yJ3_checkFromIndexSize_8c36e, Cond.initialized RJ3, Cond.code yJ3_checkFromIndexSize_8c36e cJ3_checkFromIndexSize_8c36e 4 (some .int), Cond.methodLink RJ2 111 yJ2_putChar_b72d1, Cond.static yJ2_putChar_b72d1, Cond.code yJ2_putChar_b72d1 cJ2_putChar_b72d1 3 none, Cond.fieldLink RJ2 44 "java/lang/StringUTF16" "$assertionsDisabled" "Z", Cond.fieldLink RJ2 59 "java/lang/StringUTF16" "HI_BYTE_SHIFT" "I", Cond.fieldLink RJ2 63 "java/lang/StringUTF16" "LO_BYTE_SHIFT" "I"]
def wsJ5_inflate_da8c8 : List Cond := .code yJ5_inflate_da8c8 cJ5_inflate_da8c8 2 none :: ((wsJ5_inflate_da8c8_r1 ++ wsJ5_inflate_da8c8_r2) ++ wsJ40)
def wsJ3_checkFromToIndex_8c36e : List Cond := .code yJ3_checkFromToIndex_8c36e cJ3_checkFromToIndex_8c36e 4 (some .int) :: ([])
def wsJ0_checkBoundsBeginEnd_23922 : List Cond := .code yJ0_checkBoundsBeginEnd_23922 cJ0_checkBoundsBeginEnd_23922 3 none :: ([.fieldLink RJ0 1053 "jdk/internal/util/Preconditions" "SIOOBE_FORMATTER" "Ljava/util/function/BiFunction;", .methodLink RJ0 1062 yJ3_checkFromToIndex_8c36e, .static yJ3_checkFromToIndex_8c36e, .initialized RJ3, .code yJ3_checkFromToIndex_8c36e cJ3_checkFromToIndex_8c36e 4 (some .int)])
def wsJ2_checkBoundsBeginEnd_d044e : List Cond := .code yJ2_checkBoundsBeginEnd_d044e cJ2_checkBoundsBeginEnd_d044e 3 none :: ([.methodLink RJ2 48 yJ2_length_9d52b, .static yJ2_length_9d52b, .initialized RJ2, .code yJ2_length_9d52b cJ2_length_9d52b 1 (some .int), .methodLink RJ2 241 yJ0_checkBoundsBeginEnd_23922, .static yJ0_checkBoundsBeginEnd_23922, .initialized RJ0, .code yJ0_checkBoundsBeginEnd_23922 cJ0_checkBoundsBeginEnd_23922 3 none, .fieldLink RJ0 1053 "jdk/internal/util/Preconditions" "SIOOBE_FORMATTER" "Ljava/util/function/BiFunction;", .methodLink RJ0 1062 yJ3_checkFromToIndex_8c36e, .static yJ3_checkFromToIndex_8c36e, .initialized RJ3, .code yJ3_checkFromToIndex_8c36e cJ3_checkFromToIndex_8c36e 4 (some .int)])
def wsJ2_putCharsAt_cd4e5 : List Cond := .code yJ2_putCharsAt_cd4e5 cJ2_putCharsAt_cd4e5 7 (some .int) :: ([.fieldLink RJ2 44 "java/lang/StringUTF16" "$assertionsDisabled" "Z", .methodLink RJ2 96 yJ2_checkBoundsBeginEnd_d044e, .static yJ2_checkBoundsBeginEnd_d044e, .initialized RJ2, .code yJ2_checkBoundsBeginEnd_d044e cJ2_checkBoundsBeginEnd_d044e 3 none, .methodLink RJ2 48 yJ2_length_9d52b, .static yJ2_length_9d52b, .code yJ2_length_9d52b cJ2_length_9d52b 1 (some .int), .methodLink RJ2 241 yJ0_checkBoundsBeginEnd_23922, .static yJ0_checkBoundsBeginEnd_23922, .initialized RJ0, .code yJ0_checkBoundsBeginEnd_23922 cJ0_checkBoundsBeginEnd_23922 3 none, .fieldLink RJ0 1053 "jdk/internal/util/Preconditions" "SIOOBE_FORMATTER" "Ljava/util/function/BiFunction;", .methodLink RJ0 1062 yJ3_checkFromToIndex_8c36e, .static yJ3_checkFromToIndex_8c36e, .initialized RJ3, .code yJ3_checkFromToIndex_8c36e cJ3_checkFromToIndex_8c36e 4 (some .int), .methodLink RJ2 111 yJ2_putChar_b72d1, .static yJ2_putChar_b72d1, .code yJ2_putChar_b72d1 cJ2_putChar_b72d1 3 none, .fieldLink RJ2 59 "java/lang/StringUTF16" "HI_BYTE_SHIFT" "I", .fieldLink RJ2 63 "java/lang/StringUTF16" "LO_BYTE_SHIFT" "I"])
def wsJ5_appendNull_278bc_r1 : List Cond := [Cond.fieldLink RJ5 79 "java/lang/AbstractStringBuilder" "count" "I", Cond.fieldLink RJ5 15 "java/lang/AbstractStringBuilder" "value" "[B", Cond.methodLink RJ5 100 ⟨"java/lang/AbstractStringBuilder", "ensureCapacityInternal", "(I)V"⟩, Cond.sameMethod "java/lang/AbstractStringBuilder" "java/lang/AbstractStringBuilder" "ensureCapacityInternal" "(I)V", Cond.selects RJ4 ⟨"java/lang/AbstractStringBuilder", "ensureCapacityInternal", "(I)V"⟩ yJ5_ensureCapacityInternal_d00df, Cond.instanceMethod yJ5_ensureCapacityInternal_d00df, Cond.initialized RJ5, Cond.code yJ5_ensureCapacityInternal_d00df cJ5_ensureCapacityInternal_d00df 3 none, Cond.fieldLink RJ5 22 "java/lang/AbstractStringBuilder" "coder" "B", Cond.methodLink RJ5 104 ⟨"java/lang/AbstractStringBuilder", "newCapacity", "(I)I"⟩, Cond.sameMethod "java/lang/AbstractStringBuilder" "java/lang/AbstractStringBuilder" "newCapacity" "(I)I", Cond.selects RJ4 ⟨"java/lang/AbstractStringBuilder", "newCapacity", "(I)I"⟩ yJ5_newCapacity_0f7a4, Cond.instanceMethod yJ5_newCapacity_0f7a4, Cond.code yJ5_newCapacity_0f7a4 cJ5_newCapacity_0f7a4 6 (some .int), Cond.constant RJ5 39 (2147483647), Cond.methodLink RJ5 114 yJ8_newLength_cabcc, Cond.static yJ8_newLength_cabcc, Cond.initialized RJ8, Cond.code yJ8_newLength_cabcc cJ8_newLength_cabcc 4 (some .int), Cond.methodLink RJ8 194 Lib.Math.max.name, Cond.static Lib.Math.max.name, Cond.initialized "java/lang/Math", Cond.code Lib.Math.max.name Lib.Math.max.code 2 (some .int), Cond.constant RJ8 200 (2147483639)]
def wsJ5_appendNull_278bc_r2 : List Cond := [Cond.methodLink RJ8 201 yJ8_hugeLength_7cf53, Cond.static yJ8_hugeLength_7cf53, Cond.code yJ8_hugeLength_7cf53 cJ8_hugeLength_7cf53 3 (some .int), Cond.methodLink RJ5 108 yJ7_copyOf_9075b, Cond.static yJ7_copyOf_9075b, Cond.initialized RJ7, Cond.code yJ7_copyOf_9075b cJ7_copyOf_9075b 3 (some (.array .byte)), Cond.methodLink RJ7 310 ⟨"[B", "clone", "()Ljava/lang/Object;"⟩, Cond.sameMethod "[B" "java/lang/Object" "clone" "()Ljava/lang/Object;", Cond.native ⟨"java/lang/Object", "clone", "()Ljava/lang/Object;"⟩, Cond.instanceMethod ⟨"java/lang/Object", "clone", "()Ljava/lang/Object;"⟩, Cond.selects "[B" ⟨"[B", "clone", "()Ljava/lang/Object;"⟩ ⟨"java/lang/Object", "clone", "()Ljava/lang/Object;"⟩, Cond.classLink RJ7 311 "[B", Cond.arrayClass .byte, Cond.methodLink RJ7 304 Lib.Math.min.name, Cond.static Lib.Math.min.name, Cond.code Lib.Math.min.name Lib.Math.min.code 2 (some .int), Cond.methodLink RJ7 150 arraycopyName, Cond.native arraycopyName, Cond.static arraycopyName, Cond.initialized "java/lang/System", Cond.methodLink RJ5 83 ⟨"java/lang/AbstractStringBuilder", "isLatin1", "()Z"⟩, Cond.sameMethod "java/lang/AbstractStringBuilder" "java/lang/AbstractStringBuilder" "isLatin1" "()Z", Cond.selects RJ4 ⟨"java/lang/AbstractStringBuilder", "isLatin1", "()Z"⟩ yJ5_isLatin1_aae02]
def wsJ5_appendNull_278bc_r3 : List Cond := [Cond.instanceMethod yJ5_isLatin1_aae02, Cond.code yJ5_isLatin1_aae02 cJ5_isLatin1_aae02 1 (some .boolean), Cond.fieldLink RJ5 18 "java/lang/String" "COMPACT_STRINGS" "Z", Cond.methodLink RJ5 226 yJ2_putCharsAt_cd4e5, Cond.static yJ2_putCharsAt_cd4e5, Cond.initialized RJ2, Cond.code yJ2_putCharsAt_cd4e5 cJ2_putCharsAt_cd4e5 7 (some .int), Cond.fieldLink RJ2 44 "java/lang/StringUTF16" "$assertionsDisabled" "Z", Cond.methodLink RJ2 96 yJ2_checkBoundsBeginEnd_d044e, Cond.static yJ2_checkBoundsBeginEnd_d044e, Cond.code yJ2_checkBoundsBeginEnd_d044e cJ2_checkBoundsBeginEnd_d044e 3 none, Cond.methodLink RJ2 48 yJ2_length_9d52b, Cond.static yJ2_length_9d52b, Cond.code yJ2_length_9d52b cJ2_length_9d52b 1 (some .int), Cond.methodLink RJ2 241 yJ0_checkBoundsBeginEnd_23922, Cond.static yJ0_checkBoundsBeginEnd_23922, Cond.initialized RJ0, Cond.code yJ0_checkBoundsBeginEnd_23922 cJ0_checkBoundsBeginEnd_23922 3 none, Cond.fieldLink RJ0 1053 "jdk/internal/util/Preconditions" "SIOOBE_FORMATTER" "Ljava/util/function/BiFunction;", Cond.methodLink RJ0 1062 yJ3_checkFromToIndex_8c36e, Cond.static yJ3_checkFromToIndex_8c36e, Cond.initialized RJ3, Cond.code yJ3_checkFromToIndex_8c36e cJ3_checkFromToIndex_8c36e 4 (some .int), Cond.methodLink RJ2 111 yJ2_putChar_b72d1]
def wsJ5_appendNull_278bc_r4 : List Cond := [Cond.static yJ2_putChar_b72d1, Cond.code yJ2_putChar_b72d1 cJ2_putChar_b72d1 3 none, Cond.fieldLink RJ2 59 "java/lang/StringUTF16" "HI_BYTE_SHIFT" "I", Cond.fieldLink RJ2 63 "java/lang/StringUTF16" "LO_BYTE_SHIFT" "I"]
def wsJ5_appendNull_278bc : List Cond := .code yJ5_appendNull_278bc cJ5_appendNull_278bc 3 (some (.object "java/lang/AbstractStringBuilder")) :: ((wsJ5_appendNull_278bc_r1 ++ (wsJ5_appendNull_278bc_r2 ++ (wsJ5_appendNull_278bc_r3 ++ wsJ5_appendNull_278bc_r4))) ++ wsJ40)
def wsJ5_inflateIfNeededFor_a7421_r1 : List Cond := [Cond.fieldLink RJ5 18 "java/lang/String" "COMPACT_STRINGS" "Z", Cond.fieldLink RJ5 22 "java/lang/AbstractStringBuilder" "coder" "B", Cond.methodLink RJ5 40 yJ0_coder_7d493, Cond.instanceMethod yJ0_coder_7d493, Cond.selects RJ0 yJ0_coder_7d493 yJ0_coder_7d493, Cond.initialized RJ0, Cond.code yJ0_coder_7d493 cJ0_coder_7d493 1 (some .byte), Cond.fieldLink RJ0 38 "java/lang/String" "COMPACT_STRINGS" "Z", Cond.fieldLink RJ0 15 "java/lang/String" "coder" "B", Cond.methodLink RJ5 195 ⟨"java/lang/AbstractStringBuilder", "inflate", "()V"⟩, Cond.sameMethod "java/lang/AbstractStringBuilder" "java/lang/AbstractStringBuilder" "inflate" "()V", Cond.selects RJ4 ⟨"java/lang/AbstractStringBuilder", "inflate", "()V"⟩ yJ5_inflate_da8c8, Cond.instanceMethod yJ5_inflate_da8c8, Cond.initialized RJ5, Cond.code yJ5_inflate_da8c8 cJ5_inflate_da8c8 2 none, Cond.fieldLink RJ5 15 "java/lang/AbstractStringBuilder" "value" "[B", Cond.fieldLink RJ5 79 "java/lang/AbstractStringBuilder" "count" "I", Cond.methodLink RJ5 83 ⟨"java/lang/AbstractStringBuilder", "isLatin1", "()Z"⟩, Cond.sameMethod "java/lang/AbstractStringBuilder" "java/lang/AbstractStringBuilder" "isLatin1" "()Z", Cond.selects RJ4 ⟨"java/lang/AbstractStringBuilder", "isLatin1", "()Z"⟩ yJ5_isLatin1_aae02, Cond.instanceMethod yJ5_isLatin1_aae02, Cond.code yJ5_isLatin1_aae02 cJ5_isLatin1_aae02 1 (some .boolean), Cond.methodLink RJ5 26 yJ2_newBytesFor_77867, Cond.static yJ2_newBytesFor_77867]
def wsJ5_inflateIfNeededFor_a7421_r2 : List Cond := [Cond.initialized RJ2, Cond.code yJ2_newBytesFor_77867 cJ2_newBytesFor_77867 1 (some (.array .byte)), Cond.arrayClass .byte, Cond.methodLink RJ2 11 yJ2_newBytesLength_0f7a4, Cond.static yJ2_newBytesLength_0f7a4, Cond.code yJ2_newBytesLength_0f7a4 cJ2_newBytesLength_0f7a4 1 (some .int), Cond.constant RJ2 20 (1073741823), Cond.methodLink RJ5 125 yJ1_inflate_0e8fd, Cond.static yJ1_inflate_0e8fd, Cond.initialized RJ1, Cond.code yJ1_inflate_0e8fd cJ1_inflate_0e8fd 5 none, Cond.methodLink RJ1 240 yJ2_inflate_0e8fd, Cond.static yJ2_inflate_0e8fd, Cond.code yJ2_inflate_0e8fd cJ2_inflate_0e8fd 6 none, Cond.methodLink RJ2 173 yJ2_checkBoundsOffCount_d044e, Cond.static yJ2_checkBoundsOffCount_d044e, Cond.code yJ2_checkBoundsOffCount_d044e cJ2_checkBoundsOffCount_d044e 3 none, Cond.methodLink RJ2 48 yJ2_length_9d52b, Cond.static yJ2_length_9d52b, Cond.code yJ2_length_9d52b cJ2_length_9d52b 1 (some .int), Cond.methodLink RJ2 419 yJ0_checkBoundsOffCount_cabcc, Cond.static yJ0_checkBoundsOffCount_cabcc, Cond.code yJ0_checkBoundsOffCount_cabcc cJ0_checkBoundsOffCount_cabcc 3 (some .int), Cond.fieldLink RJ0 1053 "jdk/internal/util/Preconditions" "SIOOBE_FORMATTER" "Ljava/util/function/BiFunction;"]
def wsJ5_inflateIfNeededFor_a7421_r3 : List Cond := [Cond.methodLink RJ0 1065 yJ3_checkFromIndexSize_8c36e, Cond.static yJ3_checkFromIndexSize_8c36e, Cond.initialized RJ3, Cond.code yJ3_checkFromIndexSize_8c36e cJ3_checkFromIndexSize_8c36e 4 (some .int), Cond.methodLink RJ2 111 yJ2_putChar_b72d1, Cond.static yJ2_putChar_b72d1, Cond.code yJ2_putChar_b72d1 cJ2_putChar_b72d1 3 none, Cond.fieldLink RJ2 44 "java/lang/StringUTF16" "$assertionsDisabled" "Z", Cond.fieldLink RJ2 59 "java/lang/StringUTF16" "HI_BYTE_SHIFT" "I", Cond.fieldLink RJ2 63 "java/lang/StringUTF16" "LO_BYTE_SHIFT" "I"]
def wsJ5_inflateIfNeededFor_a7421 : List Cond := .code yJ5_inflateIfNeededFor_a7421 cJ5_inflateIfNeededFor_a7421 2 none :: ((wsJ5_inflateIfNeededFor_a7421_r1 ++ (wsJ5_inflateIfNeededFor_a7421_r2 ++ wsJ5_inflateIfNeededFor_a7421_r3)) ++ wsJ40 ++ wsJ00)
def wsJ0_getBytes_840e7_r1 : List Cond := [Cond.fieldLink RJ0 9 "java/lang/String" "value" "[B", Cond.methodLink RJ0 212 arraycopyName, Cond.native arraycopyName, Cond.static arraycopyName, Cond.initialized "java/lang/System", Cond.methodLink RJ0 335 yJ0_coder_7d493, Cond.instanceMethod yJ0_coder_7d493, Cond.selects RJ0 yJ0_coder_7d493 yJ0_coder_7d493, Cond.initialized RJ0, Cond.code yJ0_coder_7d493 cJ0_coder_7d493 1 (some .byte), Cond.fieldLink RJ0 38 "java/lang/String" "COMPACT_STRINGS" "Z", Cond.fieldLink RJ0 15 "java/lang/String" "coder" "B", Cond.methodLink RJ0 106 yJ1_inflate_0e8fd, Cond.static yJ1_inflate_0e8fd, Cond.initialized RJ1, Cond.code yJ1_inflate_0e8fd cJ1_inflate_0e8fd 5 none, Cond.methodLink RJ1 240 yJ2_inflate_0e8fd, Cond.static yJ2_inflate_0e8fd, Cond.initialized RJ2, Cond.code yJ2_inflate_0e8fd cJ2_inflate_0e8fd 6 none, Cond.methodLink RJ2 173 yJ2_checkBoundsOffCount_d044e, Cond.static yJ2_checkBoundsOffCount_d044e, Cond.code yJ2_checkBoundsOffCount_d044e cJ2_checkBoundsOffCount_d044e 3 none, Cond.methodLink RJ2 48 yJ2_length_9d52b]
def wsJ0_getBytes_840e7_r2 : List Cond := [Cond.static yJ2_length_9d52b, Cond.code yJ2_length_9d52b cJ2_length_9d52b 1 (some .int), Cond.methodLink RJ2 419 yJ0_checkBoundsOffCount_cabcc, Cond.static yJ0_checkBoundsOffCount_cabcc, Cond.code yJ0_checkBoundsOffCount_cabcc cJ0_checkBoundsOffCount_cabcc 3 (some .int), Cond.fieldLink RJ0 1053 "jdk/internal/util/Preconditions" "SIOOBE_FORMATTER" "Ljava/util/function/BiFunction;", Cond.methodLink RJ0 1065 yJ3_checkFromIndexSize_8c36e, Cond.static yJ3_checkFromIndexSize_8c36e, Cond.initialized RJ3, Cond.code yJ3_checkFromIndexSize_8c36e cJ3_checkFromIndexSize_8c36e 4 (some .int), Cond.methodLink RJ2 111 yJ2_putChar_b72d1, Cond.static yJ2_putChar_b72d1, Cond.code yJ2_putChar_b72d1 cJ2_putChar_b72d1 3 none, Cond.fieldLink RJ2 44 "java/lang/StringUTF16" "$assertionsDisabled" "Z", Cond.fieldLink RJ2 59 "java/lang/StringUTF16" "HI_BYTE_SHIFT" "I", Cond.fieldLink RJ2 63 "java/lang/StringUTF16" "LO_BYTE_SHIFT" "I"]
def wsJ0_getBytes_840e7 : List Cond := .code yJ0_getBytes_840e7 cJ0_getBytes_840e7 4 none :: ((wsJ0_getBytes_840e7_r1 ++ wsJ0_getBytes_840e7_r2) ++ wsJ00)
def wsJ5_putStringAt_47b60_r1 : List Cond := [Cond.fieldLink RJ5 15 "java/lang/AbstractStringBuilder" "value" "[B", Cond.fieldLink RJ5 22 "java/lang/AbstractStringBuilder" "coder" "B", Cond.methodLink RJ5 397 ⟨"java/lang/AbstractStringBuilder", "inflateIfNeededFor", "(Ljava/lang/String;)V"⟩, Cond.sameMethod "java/lang/AbstractStringBuilder" "java/lang/AbstractStringBuilder" "inflateIfNeededFor" "(Ljava/lang/String;)V", Cond.selects RJ4 ⟨"java/lang/AbstractStringBuilder", "inflateIfNeededFor", "(Ljava/lang/String;)V"⟩ yJ5_inflateIfNeededFor_a7421, Cond.instanceMethod yJ5_inflateIfNeededFor_a7421, Cond.initialized RJ5, Cond.code yJ5_inflateIfNeededFor_a7421 cJ5_inflateIfNeededFor_a7421 2 none, Cond.fieldLink RJ5 18 "java/lang/String" "COMPACT_STRINGS" "Z", Cond.methodLink RJ5 40 yJ0_coder_7d493, Cond.instanceMethod yJ0_coder_7d493, Cond.selects RJ0 yJ0_coder_7d493 yJ0_coder_7d493, Cond.initialized RJ0, Cond.code yJ0_coder_7d493 cJ0_coder_7d493 1 (some .byte), Cond.fieldLink RJ0 38 "java/lang/String" "COMPACT_STRINGS" "Z", Cond.fieldLink RJ0 15 "java/lang/String" "coder" "B", Cond.methodLink RJ5 195 ⟨"java/lang/AbstractStringBuilder", "inflate", "()V"⟩, Cond.sameMethod "java/lang/AbstractStringBuilder" "java/lang/AbstractStringBuilder" "inflate" "()V", Cond.selects RJ4 ⟨"java/lang/AbstractStringBuilder", "inflate", "()V"⟩ yJ5_inflate_da8c8, Cond.instanceMethod yJ5_inflate_da8c8, Cond.code yJ5_inflate_da8c8 cJ5_inflate_da8c8 2 none, Cond.fieldLink RJ5 79 "java/lang/AbstractStringBuilder" "count" "I", Cond.methodLink RJ5 83 ⟨"java/lang/AbstractStringBuilder", "isLatin1", "()Z"⟩, Cond.sameMethod "java/lang/AbstractStringBuilder" "java/lang/AbstractStringBuilder" "isLatin1" "()Z"]
def wsJ5_putStringAt_47b60_r2 : List Cond := [Cond.selects RJ4 ⟨"java/lang/AbstractStringBuilder", "isLatin1", "()Z"⟩ yJ5_isLatin1_aae02, Cond.instanceMethod yJ5_isLatin1_aae02, Cond.code yJ5_isLatin1_aae02 cJ5_isLatin1_aae02 1 (some .boolean), Cond.methodLink RJ5 26 yJ2_newBytesFor_77867, Cond.static yJ2_newBytesFor_77867, Cond.initialized RJ2, Cond.code yJ2_newBytesFor_77867 cJ2_newBytesFor_77867 1 (some (.array .byte)), Cond.arrayClass .byte, Cond.methodLink RJ2 11 yJ2_newBytesLength_0f7a4, Cond.static yJ2_newBytesLength_0f7a4, Cond.code yJ2_newBytesLength_0f7a4 cJ2_newBytesLength_0f7a4 1 (some .int), Cond.constant RJ2 20 (1073741823), Cond.methodLink RJ5 125 yJ1_inflate_0e8fd, Cond.static yJ1_inflate_0e8fd, Cond.initialized RJ1, Cond.code yJ1_inflate_0e8fd cJ1_inflate_0e8fd 5 none, Cond.methodLink RJ1 240 yJ2_inflate_0e8fd, Cond.static yJ2_inflate_0e8fd, Cond.code yJ2_inflate_0e8fd cJ2_inflate_0e8fd 6 none, Cond.methodLink RJ2 173 yJ2_checkBoundsOffCount_d044e, Cond.static yJ2_checkBoundsOffCount_d044e, Cond.code yJ2_checkBoundsOffCount_d044e cJ2_checkBoundsOffCount_d044e 3 none, Cond.methodLink RJ2 48 yJ2_length_9d52b, Cond.static yJ2_length_9d52b]
def wsJ5_putStringAt_47b60_r3 : List Cond := [Cond.code yJ2_length_9d52b cJ2_length_9d52b 1 (some .int), Cond.methodLink RJ2 419 yJ0_checkBoundsOffCount_cabcc, Cond.static yJ0_checkBoundsOffCount_cabcc, Cond.code yJ0_checkBoundsOffCount_cabcc cJ0_checkBoundsOffCount_cabcc 3 (some .int), Cond.fieldLink RJ0 1053 "jdk/internal/util/Preconditions" "SIOOBE_FORMATTER" "Ljava/util/function/BiFunction;", Cond.methodLink RJ0 1065 yJ3_checkFromIndexSize_8c36e, Cond.static yJ3_checkFromIndexSize_8c36e, Cond.initialized RJ3, Cond.code yJ3_checkFromIndexSize_8c36e cJ3_checkFromIndexSize_8c36e 4 (some .int), Cond.methodLink RJ2 111 yJ2_putChar_b72d1, Cond.static yJ2_putChar_b72d1, Cond.code yJ2_putChar_b72d1 cJ2_putChar_b72d1 3 none, Cond.fieldLink RJ2 44 "java/lang/StringUTF16" "$assertionsDisabled" "Z", Cond.fieldLink RJ2 59 "java/lang/StringUTF16" "HI_BYTE_SHIFT" "I", Cond.fieldLink RJ2 63 "java/lang/StringUTF16" "LO_BYTE_SHIFT" "I", Cond.methodLink RJ5 399 yJ0_getBytes_840e7, Cond.instanceMethod yJ0_getBytes_840e7, Cond.selects RJ0 yJ0_getBytes_840e7 yJ0_getBytes_840e7, Cond.code yJ0_getBytes_840e7 cJ0_getBytes_840e7 4 none, Cond.fieldLink RJ0 9 "java/lang/String" "value" "[B", Cond.methodLink RJ0 212 arraycopyName, Cond.native arraycopyName, Cond.static arraycopyName, Cond.initialized "java/lang/System"]
def wsJ5_putStringAt_47b60_r4 : List Cond := [Cond.methodLink RJ0 335 yJ0_coder_7d493, Cond.methodLink RJ0 106 yJ1_inflate_0e8fd]
def wsJ5_putStringAt_47b60 : List Cond := .code yJ5_putStringAt_47b60 cJ5_putStringAt_47b60 3 none :: ((wsJ5_putStringAt_47b60_r1 ++ (wsJ5_putStringAt_47b60_r2 ++ (wsJ5_putStringAt_47b60_r3 ++ wsJ5_putStringAt_47b60_r4))) ++ wsJ40 ++ wsJ00)
def wsJ5_append_cf1ce_r1 : List Cond := [Cond.fieldLink RJ5 79 "java/lang/AbstractStringBuilder" "count" "I", Cond.methodLink RJ5 204 ⟨"java/lang/AbstractStringBuilder", "appendNull", "()Ljava/lang/AbstractStringBuilder;"⟩, Cond.sameMethod "java/lang/AbstractStringBuilder" "java/lang/AbstractStringBuilder" "appendNull" "()Ljava/lang/AbstractStringBuilder;", Cond.selects RJ4 ⟨"java/lang/AbstractStringBuilder", "appendNull", "()Ljava/lang/AbstractStringBuilder;"⟩ yJ5_appendNull_278bc, Cond.instanceMethod yJ5_appendNull_278bc, Cond.initialized RJ5, Cond.code yJ5_appendNull_278bc cJ5_appendNull_278bc 3 (some (.object "java/lang/AbstractStringBuilder")), Cond.fieldLink RJ5 15 "java/lang/AbstractStringBuilder" "value" "[B", Cond.methodLink RJ5 100 ⟨"java/lang/AbstractStringBuilder", "ensureCapacityInternal", "(I)V"⟩, Cond.sameMethod "java/lang/AbstractStringBuilder" "java/lang/AbstractStringBuilder" "ensureCapacityInternal" "(I)V", Cond.selects RJ4 ⟨"java/lang/AbstractStringBuilder", "ensureCapacityInternal", "(I)V"⟩ yJ5_ensureCapacityInternal_d00df, Cond.instanceMethod yJ5_ensureCapacityInternal_d00df, Cond.code yJ5_ensureCapacityInternal_d00df cJ5_ensureCapacityInternal_d00df 3 none, Cond.fieldLink RJ5 22 "java/lang/AbstractStringBuilder" "coder" "B", Cond.methodLink RJ5 104 ⟨"java/lang/AbstractStringBuilder", "newCapacity", "(I)I"⟩, Cond.sameMethod "java/lang/AbstractStringBuilder" "java/lang/AbstractStringBuilder" "newCapacity" "(I)I", Cond.selects RJ4 ⟨"java/lang/AbstractStringBuilder", "newCapacity", "(I)I"⟩ yJ5_newCapacity_0f7a4, Cond.instanceMethod yJ5_newCapacity_0f7a4, Cond.code yJ5_newCapacity_0f7a4 cJ5_newCapacity_0f7a4 6 (some .int), Cond.constant RJ5 39 (2147483647), Cond.methodLink RJ5 114 yJ8_newLength_cabcc, Cond.static yJ8_newLength_cabcc, Cond.initialized RJ8, Cond.code yJ8_newLength_cabcc cJ8_newLength_cabcc 4 (some .int)]
def wsJ5_append_cf1ce_r2 : List Cond := [Cond.methodLink RJ8 194 Lib.Math.max.name, Cond.static Lib.Math.max.name, Cond.initialized "java/lang/Math", Cond.code Lib.Math.max.name Lib.Math.max.code 2 (some .int), Cond.constant RJ8 200 (2147483639), Cond.methodLink RJ8 201 yJ8_hugeLength_7cf53, Cond.static yJ8_hugeLength_7cf53, Cond.code yJ8_hugeLength_7cf53 cJ8_hugeLength_7cf53 3 (some .int), Cond.methodLink RJ5 108 yJ7_copyOf_9075b, Cond.static yJ7_copyOf_9075b, Cond.initialized RJ7, Cond.code yJ7_copyOf_9075b cJ7_copyOf_9075b 3 (some (.array .byte)), Cond.methodLink RJ7 310 ⟨"[B", "clone", "()Ljava/lang/Object;"⟩, Cond.sameMethod "[B" "java/lang/Object" "clone" "()Ljava/lang/Object;", Cond.native ⟨"java/lang/Object", "clone", "()Ljava/lang/Object;"⟩, Cond.instanceMethod ⟨"java/lang/Object", "clone", "()Ljava/lang/Object;"⟩, Cond.selects "[B" ⟨"[B", "clone", "()Ljava/lang/Object;"⟩ ⟨"java/lang/Object", "clone", "()Ljava/lang/Object;"⟩, Cond.classLink RJ7 311 "[B", Cond.arrayClass .byte, Cond.methodLink RJ7 304 Lib.Math.min.name, Cond.static Lib.Math.min.name, Cond.code Lib.Math.min.name Lib.Math.min.code 2 (some .int), Cond.methodLink RJ7 150 arraycopyName, Cond.native arraycopyName]
def wsJ5_append_cf1ce_r3 : List Cond := [Cond.static arraycopyName, Cond.initialized "java/lang/System", Cond.methodLink RJ5 83 ⟨"java/lang/AbstractStringBuilder", "isLatin1", "()Z"⟩, Cond.sameMethod "java/lang/AbstractStringBuilder" "java/lang/AbstractStringBuilder" "isLatin1" "()Z", Cond.selects RJ4 ⟨"java/lang/AbstractStringBuilder", "isLatin1", "()Z"⟩ yJ5_isLatin1_aae02, Cond.instanceMethod yJ5_isLatin1_aae02, Cond.code yJ5_isLatin1_aae02 cJ5_isLatin1_aae02 1 (some .boolean), Cond.fieldLink RJ5 18 "java/lang/String" "COMPACT_STRINGS" "Z", Cond.methodLink RJ5 226 yJ2_putCharsAt_cd4e5, Cond.static yJ2_putCharsAt_cd4e5, Cond.initialized RJ2, Cond.code yJ2_putCharsAt_cd4e5 cJ2_putCharsAt_cd4e5 7 (some .int), Cond.fieldLink RJ2 44 "java/lang/StringUTF16" "$assertionsDisabled" "Z", Cond.methodLink RJ2 96 yJ2_checkBoundsBeginEnd_d044e, Cond.static yJ2_checkBoundsBeginEnd_d044e, Cond.code yJ2_checkBoundsBeginEnd_d044e cJ2_checkBoundsBeginEnd_d044e 3 none, Cond.methodLink RJ2 48 yJ2_length_9d52b, Cond.static yJ2_length_9d52b, Cond.code yJ2_length_9d52b cJ2_length_9d52b 1 (some .int), Cond.methodLink RJ2 241 yJ0_checkBoundsBeginEnd_23922, Cond.static yJ0_checkBoundsBeginEnd_23922, Cond.initialized RJ0, Cond.code yJ0_checkBoundsBeginEnd_23922 cJ0_checkBoundsBeginEnd_23922 3 none, Cond.fieldLink RJ0 1053 "jdk/internal/util/Preconditions" "SIOOBE_FORMATTER" "Ljava/util/function/BiFunction;"]
def wsJ5_append_cf1ce_r4 : List Cond := [Cond.methodLink RJ0 1062 yJ3_checkFromToIndex_8c36e, Cond.static yJ3_checkFromToIndex_8c36e, Cond.initialized RJ3, Cond.code yJ3_checkFromToIndex_8c36e cJ3_checkFromToIndex_8c36e 4 (some .int), Cond.methodLink RJ2 111 yJ2_putChar_b72d1, Cond.static yJ2_putChar_b72d1, Cond.code yJ2_putChar_b72d1 cJ2_putChar_b72d1 3 none, Cond.fieldLink RJ2 59 "java/lang/StringUTF16" "HI_BYTE_SHIFT" "I", Cond.fieldLink RJ2 63 "java/lang/StringUTF16" "LO_BYTE_SHIFT" "I", Cond.methodLink RJ5 32 yJ0_length_8abf5, Cond.instanceMethod yJ0_length_8abf5, Cond.selects RJ0 yJ0_length_8abf5 yJ0_length_8abf5, Cond.code yJ0_length_8abf5 cJ0_length_8abf5 1 (some .int), Cond.fieldLink RJ0 9 "java/lang/String" "value" "[B", Cond.methodLink RJ0 335 yJ0_coder_7d493, Cond.instanceMethod yJ0_coder_7d493, Cond.selects RJ0 yJ0_coder_7d493 yJ0_coder_7d493, Cond.code yJ0_coder_7d493 cJ0_coder_7d493 1 (some .byte), Cond.fieldLink RJ0 38 "java/lang/String" "COMPACT_STRINGS" "Z", Cond.fieldLink RJ0 15 "java/lang/String" "coder" "B", Cond.methodLink RJ5 208 ⟨"java/lang/AbstractStringBuilder", "putStringAt", "(ILjava/lang/String;)V"⟩, Cond.sameMethod "java/lang/AbstractStringBuilder" "java/lang/AbstractStringBuilder" "putStringAt" "(ILjava/lang/String;)V", Cond.selects RJ4 ⟨"java/lang/AbstractStringBuilder", "putStringAt", "(ILjava/lang/String;)V"⟩ yJ5_putStringAt_47b60, Cond.instanceMethod yJ5_putStringAt_47b60]
def wsJ5_append_cf1ce_r5 : List Cond := [Cond.code yJ5_putStringAt_47b60 cJ5_putStringAt_47b60 3 none, Cond.methodLink RJ5 397 ⟨"java/lang/AbstractStringBuilder", "inflateIfNeededFor", "(Ljava/lang/String;)V"⟩, Cond.sameMethod "java/lang/AbstractStringBuilder" "java/lang/AbstractStringBuilder" "inflateIfNeededFor" "(Ljava/lang/String;)V", Cond.selects RJ4 ⟨"java/lang/AbstractStringBuilder", "inflateIfNeededFor", "(Ljava/lang/String;)V"⟩ yJ5_inflateIfNeededFor_a7421, Cond.instanceMethod yJ5_inflateIfNeededFor_a7421, Cond.code yJ5_inflateIfNeededFor_a7421 cJ5_inflateIfNeededFor_a7421 2 none, Cond.methodLink RJ5 40 yJ0_coder_7d493, Cond.methodLink RJ5 195 ⟨"java/lang/AbstractStringBuilder", "inflate", "()V"⟩, Cond.sameMethod "java/lang/AbstractStringBuilder" "java/lang/AbstractStringBuilder" "inflate" "()V", Cond.selects RJ4 ⟨"java/lang/AbstractStringBuilder", "inflate", "()V"⟩ yJ5_inflate_da8c8, Cond.instanceMethod yJ5_inflate_da8c8, Cond.code yJ5_inflate_da8c8 cJ5_inflate_da8c8 2 none, Cond.methodLink RJ5 26 yJ2_newBytesFor_77867, Cond.static yJ2_newBytesFor_77867, Cond.code yJ2_newBytesFor_77867 cJ2_newBytesFor_77867 1 (some (.array .byte)), Cond.methodLink RJ2 11 yJ2_newBytesLength_0f7a4, Cond.static yJ2_newBytesLength_0f7a4, Cond.code yJ2_newBytesLength_0f7a4 cJ2_newBytesLength_0f7a4 1 (some .int), Cond.constant RJ2 20 (1073741823), Cond.methodLink RJ5 125 yJ1_inflate_0e8fd, Cond.static yJ1_inflate_0e8fd, Cond.initialized RJ1, Cond.code yJ1_inflate_0e8fd cJ1_inflate_0e8fd 5 none, Cond.methodLink RJ1 240 yJ2_inflate_0e8fd]
def wsJ5_append_cf1ce_r6 : List Cond := [Cond.static yJ2_inflate_0e8fd, Cond.code yJ2_inflate_0e8fd cJ2_inflate_0e8fd 6 none, Cond.methodLink RJ2 173 yJ2_checkBoundsOffCount_d044e, Cond.static yJ2_checkBoundsOffCount_d044e, Cond.code yJ2_checkBoundsOffCount_d044e cJ2_checkBoundsOffCount_d044e 3 none, Cond.methodLink RJ2 419 yJ0_checkBoundsOffCount_cabcc, Cond.static yJ0_checkBoundsOffCount_cabcc, Cond.code yJ0_checkBoundsOffCount_cabcc cJ0_checkBoundsOffCount_cabcc 3 (some .int), Cond.methodLink RJ0 1065 yJ3_checkFromIndexSize_8c36e, Cond.static yJ3_checkFromIndexSize_8c36e, Cond.code yJ3_checkFromIndexSize_8c36e cJ3_checkFromIndexSize_8c36e 4 (some .int), Cond.methodLink RJ5 399 yJ0_getBytes_840e7, Cond.instanceMethod yJ0_getBytes_840e7, Cond.selects RJ0 yJ0_getBytes_840e7 yJ0_getBytes_840e7, Cond.code yJ0_getBytes_840e7 cJ0_getBytes_840e7 4 none, Cond.methodLink RJ0 212 arraycopyName, Cond.methodLink RJ0 106 yJ1_inflate_0e8fd]
def wsJ5_append_cf1ce : List Cond := .code yJ5_append_cf1ce cJ5_append_cf1ce 3 (some (.object "java/lang/AbstractStringBuilder")) :: ((wsJ5_append_cf1ce_r1 ++ (wsJ5_append_cf1ce_r2 ++ (wsJ5_append_cf1ce_r3 ++ (wsJ5_append_cf1ce_r4 ++ (wsJ5_append_cf1ce_r5 ++ wsJ5_append_cf1ce_r6))))) ++ wsJ40 ++ wsJ00)
def wsJ6_stringSize_0f7a4 : List Cond := .code yJ6_stringSize_0f7a4 cJ6_stringSize_0f7a4 4 (some .int) :: ([])
def wsJ6_getChars_ba4f3 : List Cond := .code yJ6_getChars_ba4f3 cJ6_getChars_ba4f3 7 (some .int) :: ([.fieldLink RJ6 83 "java/lang/Integer" "DigitOnes" "[B", .fieldLink RJ6 87 "java/lang/Integer" "DigitTens" "[B"])
def wsJ2_getChars_ba4f3 : List Cond := .code yJ2_getChars_ba4f3 cJ2_getChars_ba4f3 7 (some .int) :: ([.fieldLink RJ2 403 "java/lang/Integer" "DigitOnes" "[B", .fieldLink RJ2 407 "java/lang/Integer" "DigitTens" "[B", .methodLink RJ2 111 yJ2_putChar_b72d1, .static yJ2_putChar_b72d1, .initialized RJ2, .code yJ2_putChar_b72d1 cJ2_putChar_b72d1 3 none, .fieldLink RJ2 44 "java/lang/StringUTF16" "$assertionsDisabled" "Z", .fieldLink RJ2 59 "java/lang/StringUTF16" "HI_BYTE_SHIFT" "I", .fieldLink RJ2 63 "java/lang/StringUTF16" "LO_BYTE_SHIFT" "I", .methodLink RJ2 48 yJ2_length_9d52b, .static yJ2_length_9d52b, .code yJ2_length_9d52b cJ2_length_9d52b 1 (some .int)])
def wsJ2_getChars_46870_r1 : List Cond := [Cond.fieldLink RJ2 44 "java/lang/StringUTF16" "$assertionsDisabled" "Z", Cond.methodLink RJ2 96 yJ2_checkBoundsBeginEnd_d044e, Cond.static yJ2_checkBoundsBeginEnd_d044e, Cond.initialized RJ2, Cond.code yJ2_checkBoundsBeginEnd_d044e cJ2_checkBoundsBeginEnd_d044e 3 none, Cond.methodLink RJ2 48 yJ2_length_9d52b, Cond.static yJ2_length_9d52b, Cond.code yJ2_length_9d52b cJ2_length_9d52b 1 (some .int), Cond.methodLink RJ2 241 yJ0_checkBoundsBeginEnd_23922, Cond.static yJ0_checkBoundsBeginEnd_23922, Cond.initialized RJ0, Cond.code yJ0_checkBoundsBeginEnd_23922 cJ0_checkBoundsBeginEnd_23922 3 none, Cond.fieldLink RJ0 1053 "jdk/internal/util/Preconditions" "SIOOBE_FORMATTER" "Ljava/util/function/BiFunction;", Cond.methodLink RJ0 1062 yJ3_checkFromToIndex_8c36e, Cond.static yJ3_checkFromToIndex_8c36e, Cond.initialized RJ3, Cond.code yJ3_checkFromToIndex_8c36e cJ3_checkFromToIndex_8c36e 4 (some .int), Cond.methodLink RJ2 393 yJ2_getChars_ba4f3, Cond.static yJ2_getChars_ba4f3, Cond.code yJ2_getChars_ba4f3 cJ2_getChars_ba4f3 7 (some .int), Cond.fieldLink RJ2 403 "java/lang/Integer" "DigitOnes" "[B", Cond.fieldLink RJ2 407 "java/lang/Integer" "DigitTens" "[B", Cond.methodLink RJ2 111 yJ2_putChar_b72d1, Cond.static yJ2_putChar_b72d1]
def wsJ2_getChars_46870_r2 : List Cond := [Cond.code yJ2_putChar_b72d1 cJ2_putChar_b72d1 3 none, Cond.fieldLink RJ2 59 "java/lang/StringUTF16" "HI_BYTE_SHIFT" "I", Cond.fieldLink RJ2 63 "java/lang/StringUTF16" "LO_BYTE_SHIFT" "I"]
def wsJ2_getChars_46870 : List Cond := .code yJ2_getChars_46870 cJ2_getChars_46870 5 (some .int) :: ((wsJ2_getChars_46870_r1 ++ wsJ2_getChars_46870_r2))
def wsJ5_append_c97b9_r1 : List Cond := [Cond.fieldLink RJ5 79 "java/lang/AbstractStringBuilder" "count" "I", Cond.fieldLink RJ5 15 "java/lang/AbstractStringBuilder" "value" "[B", Cond.methodLink RJ5 245 yJ6_stringSize_0f7a4, Cond.static yJ6_stringSize_0f7a4, Cond.initialized RJ6, Cond.code yJ6_stringSize_0f7a4 cJ6_stringSize_0f7a4 4 (some .int), Cond.methodLink RJ5 100 ⟨"java/lang/AbstractStringBuilder", "ensureCapacityInternal", "(I)V"⟩, Cond.sameMethod "java/lang/AbstractStringBuilder" "java/lang/AbstractStringBuilder" "ensureCapacityInternal" "(I)V", Cond.selects RJ4 ⟨"java/lang/AbstractStringBuilder", "ensureCapacityInternal", "(I)V"⟩ yJ5_ensureCapacityInternal_d00df, Cond.instanceMethod yJ5_ensureCapacityInternal_d00df, Cond.initialized RJ5, Cond.code yJ5_ensureCapacityInternal_d00df cJ5_ensureCapacityInternal_d00df 3 none, Cond.fieldLink RJ5 22 "java/lang/AbstractStringBuilder" "coder" "B", Cond.methodLink RJ5 104 ⟨"java/lang/AbstractStringBuilder", "newCapacity", "(I)I"⟩, Cond.sameMethod "java/lang/AbstractStringBuilder" "java/lang/AbstractStringBuilder" "newCapacity" "(I)I", Cond.selects RJ4 ⟨"java/lang/AbstractStringBuilder", "newCapacity", "(I)I"⟩ yJ5_newCapacity_0f7a4, Cond.instanceMethod yJ5_newCapacity_0f7a4, Cond.code yJ5_newCapacity_0f7a4 cJ5_newCapacity_0f7a4 6 (some .int), Cond.constant RJ5 39 (2147483647), Cond.methodLink RJ5 114 yJ8_newLength_cabcc, Cond.static yJ8_newLength_cabcc, Cond.initialized RJ8, Cond.code yJ8_newLength_cabcc cJ8_newLength_cabcc 4 (some .int), Cond.methodLink RJ8 194 Lib.Math.max.name]
def wsJ5_append_c97b9_r2 : List Cond := [Cond.static Lib.Math.max.name, Cond.initialized "java/lang/Math", Cond.code Lib.Math.max.name Lib.Math.max.code 2 (some .int), Cond.constant RJ8 200 (2147483639), Cond.methodLink RJ8 201 yJ8_hugeLength_7cf53, Cond.static yJ8_hugeLength_7cf53, Cond.code yJ8_hugeLength_7cf53 cJ8_hugeLength_7cf53 3 (some .int), Cond.methodLink RJ5 108 yJ7_copyOf_9075b, Cond.static yJ7_copyOf_9075b, Cond.initialized RJ7, Cond.code yJ7_copyOf_9075b cJ7_copyOf_9075b 3 (some (.array .byte)), Cond.methodLink RJ7 310 ⟨"[B", "clone", "()Ljava/lang/Object;"⟩, Cond.sameMethod "[B" "java/lang/Object" "clone" "()Ljava/lang/Object;", Cond.native ⟨"java/lang/Object", "clone", "()Ljava/lang/Object;"⟩, Cond.instanceMethod ⟨"java/lang/Object", "clone", "()Ljava/lang/Object;"⟩, Cond.selects "[B" ⟨"[B", "clone", "()Ljava/lang/Object;"⟩ ⟨"java/lang/Object", "clone", "()Ljava/lang/Object;"⟩, Cond.classLink RJ7 311 "[B", Cond.arrayClass .byte, Cond.methodLink RJ7 304 Lib.Math.min.name, Cond.static Lib.Math.min.name, Cond.code Lib.Math.min.name Lib.Math.min.code 2 (some .int), Cond.methodLink RJ7 150 arraycopyName, Cond.native arraycopyName, Cond.static arraycopyName]
def wsJ5_append_c97b9_r3 : List Cond := [Cond.initialized "java/lang/System", Cond.methodLink RJ5 83 ⟨"java/lang/AbstractStringBuilder", "isLatin1", "()Z"⟩, Cond.sameMethod "java/lang/AbstractStringBuilder" "java/lang/AbstractStringBuilder" "isLatin1" "()Z", Cond.selects RJ4 ⟨"java/lang/AbstractStringBuilder", "isLatin1", "()Z"⟩ yJ5_isLatin1_aae02, Cond.instanceMethod yJ5_isLatin1_aae02, Cond.code yJ5_isLatin1_aae02 cJ5_isLatin1_aae02 1 (some .boolean), Cond.fieldLink RJ5 18 "java/lang/String" "COMPACT_STRINGS" "Z", Cond.methodLink RJ5 248 yJ6_getChars_ba4f3, Cond.static yJ6_getChars_ba4f3, Cond.code yJ6_getChars_ba4f3 cJ6_getChars_ba4f3 7 (some .int), Cond.fieldLink RJ6 83 "java/lang/Integer" "DigitOnes" "[B", Cond.fieldLink RJ6 87 "java/lang/Integer" "DigitTens" "[B", Cond.methodLink RJ5 251 yJ2_getChars_46870, Cond.static yJ2_getChars_46870, Cond.initialized RJ2, Cond.code yJ2_getChars_46870 cJ2_getChars_46870 5 (some .int), Cond.fieldLink RJ2 44 "java/lang/StringUTF16" "$assertionsDisabled" "Z", Cond.methodLink RJ2 96 yJ2_checkBoundsBeginEnd_d044e, Cond.static yJ2_checkBoundsBeginEnd_d044e, Cond.code yJ2_checkBoundsBeginEnd_d044e cJ2_checkBoundsBeginEnd_d044e 3 none, Cond.methodLink RJ2 48 yJ2_length_9d52b, Cond.static yJ2_length_9d52b, Cond.code yJ2_length_9d52b cJ2_length_9d52b 1 (some .int), Cond.methodLink RJ2 241 yJ0_checkBoundsBeginEnd_23922]
def wsJ5_append_c97b9_r4 : List Cond := [Cond.static yJ0_checkBoundsBeginEnd_23922, Cond.initialized RJ0, Cond.code yJ0_checkBoundsBeginEnd_23922 cJ0_checkBoundsBeginEnd_23922 3 none, Cond.fieldLink RJ0 1053 "jdk/internal/util/Preconditions" "SIOOBE_FORMATTER" "Ljava/util/function/BiFunction;", Cond.methodLink RJ0 1062 yJ3_checkFromToIndex_8c36e, Cond.static yJ3_checkFromToIndex_8c36e, Cond.initialized RJ3, Cond.code yJ3_checkFromToIndex_8c36e cJ3_checkFromToIndex_8c36e 4 (some .int), Cond.methodLink RJ2 393 yJ2_getChars_ba4f3, Cond.static yJ2_getChars_ba4f3, Cond.code yJ2_getChars_ba4f3 cJ2_getChars_ba4f3 7 (some .int), Cond.fieldLink RJ2 403 "java/lang/Integer" "DigitOnes" "[B", Cond.fieldLink RJ2 407 "java/lang/Integer" "DigitTens" "[B", Cond.methodLink RJ2 111 yJ2_putChar_b72d1, Cond.static yJ2_putChar_b72d1, Cond.code yJ2_putChar_b72d1 cJ2_putChar_b72d1 3 none, Cond.fieldLink RJ2 59 "java/lang/StringUTF16" "HI_BYTE_SHIFT" "I", Cond.fieldLink RJ2 63 "java/lang/StringUTF16" "LO_BYTE_SHIFT" "I"]
def wsJ5_append_c97b9 : List Cond := .code yJ5_append_c97b9 cJ5_append_c97b9 4 (some (.object "java/lang/AbstractStringBuilder")) :: ((wsJ5_append_c97b9_r1 ++ (wsJ5_append_c97b9_r2 ++ (wsJ5_append_c97b9_r3 ++ wsJ5_append_c97b9_r4))) ++ wsJ40)
def wsJ5_getValue_6d5f1 : List Cond := .code yJ5_getValue_6d5f1 cJ5_getValue_6d5f1 1 (some (.array .byte)) :: ([.fieldLink RJ5 15 "java/lang/AbstractStringBuilder" "value" "[B"] ++ wsJ40)
def wsJx00060_init_a7421 : List Cond := .code yJx00060_init_a7421 cJx00060_init_a7421 2 none :: ([])
def wsJxe99ae_isNaN_b9ae7 : List Cond := .code yJxe99ae_isNaN_b9ae7 cJxe99ae_isNaN_b9ae7 2 (some .boolean) :: ([])
def wsJxe99ae_doubleToLongBits_ccdee : List Cond := .code yJxe99ae_doubleToLongBits_ccdee cJxe99ae_doubleToLongBits_ccdee 2 (some .long) :: ([.methodLink RJxe99ae 134 ⟨"java/lang/Double", "doubleToRawLongBits", "(D)J"⟩, .native ⟨"java/lang/Double", "doubleToRawLongBits", "(D)J"⟩, .static ⟨"java/lang/Double", "doubleToRawLongBits", "(D)J"⟩, .initialized "java/lang/Double", .constantLong RJxe99ae 137 (9221120237041090560), .methodLink RJxe99ae 122 yJxe99ae_isNaN_b9ae7, .static yJxe99ae_isNaN_b9ae7, .initialized RJxe99ae, .code yJxe99ae_isNaN_b9ae7 cJxe99ae_isNaN_b9ae7 2 (some .boolean)])
def wsJxf58ca_isNaN_12338 : List Cond := .code yJxf58ca_isNaN_12338 cJxf58ca_isNaN_12338 1 (some .boolean) :: ([])
def wsJxf58ca_floatToIntBits_5c35a : List Cond := .code yJxf58ca_floatToIntBits_5c35a cJxf58ca_floatToIntBits_5c35a 1 (some .int) :: ([.methodLink RJxf58ca 74 ⟨"java/lang/Float", "floatToRawIntBits", "(F)I"⟩, .native ⟨"java/lang/Float", "floatToRawIntBits", "(F)I"⟩, .static ⟨"java/lang/Float", "floatToRawIntBits", "(F)I"⟩, .initialized "java/lang/Float", .constant RJxf58ca 77 (2143289344), .methodLink RJxf58ca 59 yJxf58ca_isNaN_12338, .static yJxf58ca_isNaN_12338, .initialized RJxf58ca, .code yJxf58ca_isNaN_12338 cJxf58ca_isNaN_12338 1 (some .boolean)])
def wsJ9_max_7cf53 : List Cond := .code yJ9_max_7cf53 cJ9_max_7cf53 2 (some .int) :: ([])
def wsJ9_min_7cf53 : List Cond := .code yJ9_min_7cf53 cJ9_min_7cf53 2 (some .int) :: ([])
def wsJ4_length_8abf5 : List Cond := .code yJ4_length_8abf5 cJ4_length_8abf5 1 (some .int) :: ([.methodLink RJ4 343 yJ5_length_8abf5, .sameMethod "java/lang/AbstractStringBuilder" "java/lang/AbstractStringBuilder" "length" "()I", .superclass RJ4 RJ5, .instanceMethod yJ5_length_8abf5, .initialized RJ5, .code yJ5_length_8abf5 cJ5_length_8abf5 1 (some .int), .fieldLink RJ5 79 "java/lang/AbstractStringBuilder" "count" "I"] ++ wsJ40)
def wsJ7_checkLength_df160 : List Cond := .code yJ7_checkLength_df160 cJ7_checkLength_df160 2 none :: ([.classLink RJ7 45 RJ4, .instantiable RJ4 4, .initialized RJ4] ++ wsJ40)
def wsJ7_copyOfRangeByte_39247 : List Cond := .code yJ7_copyOfRangeByte_39247 cJ7_copyOfRangeByte_39247 5 (some (.array .byte)) :: ([.arrayClass .byte, .methodLink RJ7 304 Lib.Math.min.name, .static Lib.Math.min.name, .initialized "java/lang/Math", .code Lib.Math.min.name Lib.Math.min.code 2 (some .int), .methodLink RJ7 150 arraycopyName, .native arraycopyName, .static arraycopyName, .initialized "java/lang/System", .methodLink RJ7 343 yJ7_checkLength_df160, .static yJ7_checkLength_df160, .initialized RJ7, .code yJ7_checkLength_df160 cJ7_checkLength_df160 2 none, .classLink RJ7 45 RJ4, .instantiable RJ4 4, .initialized RJ4] ++ wsJ40)
def wsJ7_copyOfRange_39247_r1 : List Cond := [Cond.methodLink RJ7 310 ⟨"[B", "clone", "()Ljava/lang/Object;"⟩, Cond.sameMethod "[B" "java/lang/Object" "clone" "()Ljava/lang/Object;", Cond.native ⟨"java/lang/Object", "clone", "()Ljava/lang/Object;"⟩, Cond.instanceMethod ⟨"java/lang/Object", "clone", "()Ljava/lang/Object;"⟩, Cond.selects "[B" ⟨"[B", "clone", "()Ljava/lang/Object;"⟩ ⟨"java/lang/Object", "clone", "()Ljava/lang/Object;"⟩, Cond.classLink RJ7 311 "[B", Cond.methodLink RJ7 339 yJ7_copyOfRangeByte_39247, Cond.static yJ7_copyOfRangeByte_39247, Cond.initialized RJ7, Cond.code yJ7_copyOfRangeByte_39247 cJ7_copyOfRangeByte_39247 5 (some (.array .byte)), Cond.arrayClass .byte, Cond.methodLink RJ7 304 Lib.Math.min.name, Cond.static Lib.Math.min.name, Cond.initialized "java/lang/Math", Cond.code Lib.Math.min.name Lib.Math.min.code 2 (some .int), Cond.methodLink RJ7 150 arraycopyName, Cond.native arraycopyName, Cond.static arraycopyName, Cond.initialized "java/lang/System", Cond.methodLink RJ7 343 yJ7_checkLength_df160, Cond.static yJ7_checkLength_df160, Cond.code yJ7_checkLength_df160 cJ7_checkLength_df160 2 none, Cond.classLink RJ7 45 RJ4, Cond.instantiable RJ4 4]
def wsJ7_copyOfRange_39247_r2 : List Cond := [Cond.initialized RJ4]
def wsJ7_copyOfRange_39247 : List Cond := .code yJ7_copyOfRange_39247 cJ7_copyOfRange_39247 3 (some (.array .byte)) :: ((wsJ7_copyOfRange_39247_r1 ++ wsJ7_copyOfRange_39247_r2) ++ wsJ40)
def wsJ2_compress_5af95 : List Cond := .code yJ2_compress_5af95 cJ2_compress_5af95 7 (some .int) :: ([.methodLink RJ2 173 yJ2_checkBoundsOffCount_d044e, .static yJ2_checkBoundsOffCount_d044e, .initialized RJ2, .code yJ2_checkBoundsOffCount_d044e cJ2_checkBoundsOffCount_d044e 3 none, .methodLink RJ2 48 yJ2_length_9d52b, .static yJ2_length_9d52b, .code yJ2_length_9d52b cJ2_length_9d52b 1 (some .int), .methodLink RJ2 419 yJ0_checkBoundsOffCount_cabcc, .static yJ0_checkBoundsOffCount_cabcc, .initialized RJ0, .code yJ0_checkBoundsOffCount_cabcc cJ0_checkBoundsOffCount_cabcc 3 (some .int), .fieldLink RJ0 1053 "jdk/internal/util/Preconditions" "SIOOBE_FORMATTER" "Ljava/util/function/BiFunction;", .methodLink RJ0 1065 yJ3_checkFromIndexSize_8c36e, .static yJ3_checkFromIndexSize_8c36e, .initialized RJ3, .code yJ3_checkFromIndexSize_8c36e cJ3_checkFromIndexSize_8c36e 4 (some .int), .methodLink RJ2 71 yJ2_getChar_3b067, .static yJ2_getChar_3b067, .code yJ2_getChar_3b067 cJ2_getChar_3b067 2 (some .char), .fieldLink RJ2 44 "java/lang/StringUTF16" "$assertionsDisabled" "Z", .fieldLink RJ2 59 "java/lang/StringUTF16" "HI_BYTE_SHIFT" "I", .fieldLink RJ2 63 "java/lang/StringUTF16" "LO_BYTE_SHIFT" "I"])
def wsJ2_compress_39247_r1 : List Cond := [Cond.arrayClass .byte, Cond.methodLink RJ2 123 yJ2_compress_5af95, Cond.static yJ2_compress_5af95, Cond.initialized RJ2, Cond.code yJ2_compress_5af95 cJ2_compress_5af95 7 (some .int), Cond.methodLink RJ2 173 yJ2_checkBoundsOffCount_d044e, Cond.static yJ2_checkBoundsOffCount_d044e, Cond.code yJ2_checkBoundsOffCount_d044e cJ2_checkBoundsOffCount_d044e 3 none, Cond.methodLink RJ2 48 yJ2_length_9d52b, Cond.static yJ2_length_9d52b, Cond.code yJ2_length_9d52b cJ2_length_9d52b 1 (some .int), Cond.methodLink RJ2 419 yJ0_checkBoundsOffCount_cabcc, Cond.static yJ0_checkBoundsOffCount_cabcc, Cond.initialized RJ0, Cond.code yJ0_checkBoundsOffCount_cabcc cJ0_checkBoundsOffCount_cabcc 3 (some .int), Cond.fieldLink RJ0 1053 "jdk/internal/util/Preconditions" "SIOOBE_FORMATTER" "Ljava/util/function/BiFunction;", Cond.methodLink RJ0 1065 yJ3_checkFromIndexSize_8c36e, Cond.static yJ3_checkFromIndexSize_8c36e, Cond.initialized RJ3, Cond.code yJ3_checkFromIndexSize_8c36e cJ3_checkFromIndexSize_8c36e 4 (some .int), Cond.methodLink RJ2 71 yJ2_getChar_3b067, Cond.static yJ2_getChar_3b067, Cond.code yJ2_getChar_3b067 cJ2_getChar_3b067 2 (some .char), Cond.fieldLink RJ2 44 "java/lang/StringUTF16" "$assertionsDisabled" "Z"]
def wsJ2_compress_39247_r2 : List Cond := [Cond.fieldLink RJ2 59 "java/lang/StringUTF16" "HI_BYTE_SHIFT" "I", Cond.fieldLink RJ2 63 "java/lang/StringUTF16" "LO_BYTE_SHIFT" "I", Cond.methodLink RJ2 11 yJ2_newBytesLength_0f7a4, Cond.static yJ2_newBytesLength_0f7a4, Cond.code yJ2_newBytesLength_0f7a4 cJ2_newBytesLength_0f7a4 1 (some .int), Cond.constant RJ2 20 (1073741823), Cond.methodLink RJ2 126 yJ7_copyOfRange_39247, Cond.static yJ7_copyOfRange_39247, Cond.initialized RJ7, Cond.code yJ7_copyOfRange_39247 cJ7_copyOfRange_39247 3 (some (.array .byte)), Cond.methodLink RJ7 310 ⟨"[B", "clone", "()Ljava/lang/Object;"⟩, Cond.sameMethod "[B" "java/lang/Object" "clone" "()Ljava/lang/Object;", Cond.native ⟨"java/lang/Object", "clone", "()Ljava/lang/Object;"⟩, Cond.instanceMethod ⟨"java/lang/Object", "clone", "()Ljava/lang/Object;"⟩, Cond.selects "[B" ⟨"[B", "clone", "()Ljava/lang/Object;"⟩ ⟨"java/lang/Object", "clone", "()Ljava/lang/Object;"⟩, Cond.classLink RJ7 311 "[B", Cond.methodLink RJ7 339 yJ7_copyOfRangeByte_39247, Cond.static yJ7_copyOfRangeByte_39247, Cond.code yJ7_copyOfRangeByte_39247 cJ7_copyOfRangeByte_39247 5 (some (.array .byte)), Cond.methodLink RJ7 304 Lib.Math.min.name, Cond.static Lib.Math.min.name, Cond.initialized "java/lang/Math", Cond.code Lib.Math.min.name Lib.Math.min.code 2 (some .int), Cond.methodLink RJ7 150 arraycopyName]
def wsJ2_compress_39247_r3 : List Cond := [Cond.native arraycopyName, Cond.static arraycopyName, Cond.initialized "java/lang/System", Cond.methodLink RJ7 343 yJ7_checkLength_df160, Cond.static yJ7_checkLength_df160, Cond.code yJ7_checkLength_df160 cJ7_checkLength_df160 2 none, Cond.classLink RJ7 45 RJ4, Cond.instantiable RJ4 4, Cond.initialized RJ4]
def wsJ2_compress_39247 : List Cond := .code yJ2_compress_39247 cJ2_compress_39247 6 (some (.array .byte)) :: ((wsJ2_compress_39247_r1 ++ (wsJ2_compress_39247_r2 ++ wsJ2_compress_39247_r3)) ++ wsJ40)
def wsJ2_coderFromArrayLen_85cad : List Cond := .code yJ2_coderFromArrayLen_85cad cJ2_coderFromArrayLen_85cad 2 (some .byte) :: ([])
def wsJ0_init_db425_r1 : List Cond := [Cond.methodLink RJ0 1 objectInit, Cond.instanceMethod objectInit, Cond.code objectInit ⟨#[0xb1]⟩ 1 none, Cond.fieldLink RJ0 15 "java/lang/String" "coder" "B", Cond.fieldLink RJ0 9 "java/lang/String" "value" "[B", Cond.fieldLink RJ0 38 "java/lang/String" "COMPACT_STRINGS" "Z", Cond.fieldLink RJ0 1048 "java/lang/AbstractStringBuilder" "maybeLatin1" "Z", Cond.methodLink RJ0 552 ⟨"java/lang/AbstractStringBuilder", "getValue", "()[B"⟩, Cond.sameMethod "java/lang/AbstractStringBuilder" "java/lang/AbstractStringBuilder" "getValue" "()[B", Cond.selects RJ4 ⟨"java/lang/AbstractStringBuilder", "getValue", "()[B"⟩ yJ5_getValue_6d5f1, Cond.instanceMethod yJ5_getValue_6d5f1, Cond.initialized RJ5, Cond.code yJ5_getValue_6d5f1 cJ5_getValue_6d5f1 1 (some (.array .byte)), Cond.fieldLink RJ5 15 "java/lang/AbstractStringBuilder" "value" "[B", Cond.methodLink RJ0 549 ⟨"java/lang/AbstractStringBuilder", "length", "()I"⟩, Cond.sameMethod "java/lang/AbstractStringBuilder" "java/lang/AbstractStringBuilder" "length" "()I", Cond.instanceMethod ⟨"java/lang/AbstractStringBuilder", "length", "()I"⟩, Cond.selects RJ4 ⟨"java/lang/AbstractStringBuilder", "length", "()I"⟩ yJ4_length_8abf5, Cond.instanceMethod yJ4_length_8abf5, Cond.initialized RJ4, Cond.code yJ4_length_8abf5 cJ4_length_8abf5 1 (some .int), Cond.methodLink RJ4 343 yJ5_length_8abf5, Cond.superclass RJ4 RJ5, Cond.instanceMethod yJ5_length_8abf5]
def wsJ0_init_db425_r2 : List Cond := [Cond.code yJ5_length_8abf5 cJ5_length_8abf5 1 (some .int), Cond.fieldLink RJ5 79 "java/lang/AbstractStringBuilder" "count" "I", Cond.methodLink RJ0 1047 ⟨"java/lang/AbstractStringBuilder", "isLatin1", "()Z"⟩, Cond.sameMethod "java/lang/AbstractStringBuilder" "java/lang/AbstractStringBuilder" "isLatin1" "()Z", Cond.selects RJ4 ⟨"java/lang/AbstractStringBuilder", "isLatin1", "()Z"⟩ yJ5_isLatin1_aae02, Cond.instanceMethod yJ5_isLatin1_aae02, Cond.code yJ5_isLatin1_aae02 cJ5_isLatin1_aae02 1 (some .boolean), Cond.fieldLink RJ5 18 "java/lang/String" "COMPACT_STRINGS" "Z", Cond.fieldLink RJ5 22 "java/lang/AbstractStringBuilder" "coder" "B", Cond.methodLink RJ0 54 yJ7_copyOfRange_39247, Cond.static yJ7_copyOfRange_39247, Cond.initialized RJ7, Cond.code yJ7_copyOfRange_39247 cJ7_copyOfRange_39247 3 (some (.array .byte)), Cond.methodLink RJ7 310 ⟨"[B", "clone", "()Ljava/lang/Object;"⟩, Cond.sameMethod "[B" "java/lang/Object" "clone" "()Ljava/lang/Object;", Cond.native ⟨"java/lang/Object", "clone", "()Ljava/lang/Object;"⟩, Cond.instanceMethod ⟨"java/lang/Object", "clone", "()Ljava/lang/Object;"⟩, Cond.selects "[B" ⟨"[B", "clone", "()Ljava/lang/Object;"⟩ ⟨"java/lang/Object", "clone", "()Ljava/lang/Object;"⟩, Cond.classLink RJ7 311 "[B", Cond.methodLink RJ7 339 yJ7_copyOfRangeByte_39247, Cond.static yJ7_copyOfRangeByte_39247, Cond.code yJ7_copyOfRangeByte_39247 cJ7_copyOfRangeByte_39247 5 (some (.array .byte)), Cond.arrayClass .byte, Cond.methodLink RJ7 304 Lib.Math.min.name]
def wsJ0_init_db425_r3 : List Cond := [Cond.static Lib.Math.min.name, Cond.initialized "java/lang/Math", Cond.code Lib.Math.min.name Lib.Math.min.code 2 (some .int), Cond.methodLink RJ7 150 arraycopyName, Cond.native arraycopyName, Cond.static arraycopyName, Cond.initialized "java/lang/System", Cond.methodLink RJ7 343 yJ7_checkLength_df160, Cond.static yJ7_checkLength_df160, Cond.code yJ7_checkLength_df160 cJ7_checkLength_df160 2 none, Cond.classLink RJ7 45 RJ4, Cond.instantiable RJ4 4, Cond.methodLink RJ0 1051 yJ2_compress_39247, Cond.static yJ2_compress_39247, Cond.initialized RJ2, Cond.code yJ2_compress_39247 cJ2_compress_39247 6 (some (.array .byte)), Cond.methodLink RJ2 123 yJ2_compress_5af95, Cond.static yJ2_compress_5af95, Cond.code yJ2_compress_5af95 cJ2_compress_5af95 7 (some .int), Cond.methodLink RJ2 173 yJ2_checkBoundsOffCount_d044e, Cond.static yJ2_checkBoundsOffCount_d044e, Cond.code yJ2_checkBoundsOffCount_d044e cJ2_checkBoundsOffCount_d044e 3 none, Cond.methodLink RJ2 48 yJ2_length_9d52b, Cond.static yJ2_length_9d52b]
def wsJ0_init_db425_r4 : List Cond := [Cond.code yJ2_length_9d52b cJ2_length_9d52b 1 (some .int), Cond.methodLink RJ2 419 yJ0_checkBoundsOffCount_cabcc, Cond.static yJ0_checkBoundsOffCount_cabcc, Cond.initialized RJ0, Cond.code yJ0_checkBoundsOffCount_cabcc cJ0_checkBoundsOffCount_cabcc 3 (some .int), Cond.fieldLink RJ0 1053 "jdk/internal/util/Preconditions" "SIOOBE_FORMATTER" "Ljava/util/function/BiFunction;", Cond.methodLink RJ0 1065 yJ3_checkFromIndexSize_8c36e, Cond.static yJ3_checkFromIndexSize_8c36e, Cond.initialized RJ3, Cond.code yJ3_checkFromIndexSize_8c36e cJ3_checkFromIndexSize_8c36e 4 (some .int), Cond.methodLink RJ2 71 yJ2_getChar_3b067, Cond.static yJ2_getChar_3b067, Cond.code yJ2_getChar_3b067 cJ2_getChar_3b067 2 (some .char), Cond.fieldLink RJ2 44 "java/lang/StringUTF16" "$assertionsDisabled" "Z", Cond.fieldLink RJ2 59 "java/lang/StringUTF16" "HI_BYTE_SHIFT" "I", Cond.fieldLink RJ2 63 "java/lang/StringUTF16" "LO_BYTE_SHIFT" "I", Cond.methodLink RJ2 11 yJ2_newBytesLength_0f7a4, Cond.static yJ2_newBytesLength_0f7a4, Cond.code yJ2_newBytesLength_0f7a4 cJ2_newBytesLength_0f7a4 1 (some .int), Cond.constant RJ2 20 (1073741823), Cond.methodLink RJ2 126 yJ7_copyOfRange_39247, Cond.methodLink RJ0 47 yJ2_coderFromArrayLen_85cad, Cond.static yJ2_coderFromArrayLen_85cad, Cond.code yJ2_coderFromArrayLen_85cad cJ2_coderFromArrayLen_85cad 2 (some .byte)]
def wsJ0_init_db425 : List Cond := .code yJ0_init_db425 cJ0_init_db425 5 none :: ((wsJ0_init_db425_r1 ++ (wsJ0_init_db425_r2 ++ (wsJ0_init_db425_r3 ++ wsJ0_init_db425_r4))) ++ wsJ00 ++ wsJ40)
def wsJ0_init_81219_r1 : List Cond := [Cond.methodLink RJ0 489 yJ0_init_db425, Cond.instanceMethod yJ0_init_db425, Cond.initialized RJ0, Cond.code yJ0_init_db425 cJ0_init_db425 5 none, Cond.methodLink RJ0 1 objectInit, Cond.instanceMethod objectInit, Cond.code objectInit ⟨#[0xb1]⟩ 1 none, Cond.fieldLink RJ0 15 "java/lang/String" "coder" "B", Cond.fieldLink RJ0 9 "java/lang/String" "value" "[B", Cond.fieldLink RJ0 38 "java/lang/String" "COMPACT_STRINGS" "Z", Cond.fieldLink RJ0 1048 "java/lang/AbstractStringBuilder" "maybeLatin1" "Z", Cond.methodLink RJ0 552 ⟨"java/lang/AbstractStringBuilder", "getValue", "()[B"⟩, Cond.sameMethod "java/lang/AbstractStringBuilder" "java/lang/AbstractStringBuilder" "getValue" "()[B", Cond.selects RJ4 ⟨"java/lang/AbstractStringBuilder", "getValue", "()[B"⟩ yJ5_getValue_6d5f1, Cond.instanceMethod yJ5_getValue_6d5f1, Cond.initialized RJ5, Cond.code yJ5_getValue_6d5f1 cJ5_getValue_6d5f1 1 (some (.array .byte)), Cond.fieldLink RJ5 15 "java/lang/AbstractStringBuilder" "value" "[B", Cond.methodLink RJ0 549 ⟨"java/lang/AbstractStringBuilder", "length", "()I"⟩, Cond.sameMethod "java/lang/AbstractStringBuilder" "java/lang/AbstractStringBuilder" "length" "()I", Cond.instanceMethod ⟨"java/lang/AbstractStringBuilder", "length", "()I"⟩, Cond.selects RJ4 ⟨"java/lang/AbstractStringBuilder", "length", "()I"⟩ yJ4_length_8abf5, Cond.instanceMethod yJ4_length_8abf5, Cond.initialized RJ4]
def wsJ0_init_81219_r2 : List Cond := [Cond.code yJ4_length_8abf5 cJ4_length_8abf5 1 (some .int), Cond.methodLink RJ4 343 yJ5_length_8abf5, Cond.superclass RJ4 RJ5, Cond.instanceMethod yJ5_length_8abf5, Cond.code yJ5_length_8abf5 cJ5_length_8abf5 1 (some .int), Cond.fieldLink RJ5 79 "java/lang/AbstractStringBuilder" "count" "I", Cond.methodLink RJ0 1047 ⟨"java/lang/AbstractStringBuilder", "isLatin1", "()Z"⟩, Cond.sameMethod "java/lang/AbstractStringBuilder" "java/lang/AbstractStringBuilder" "isLatin1" "()Z", Cond.selects RJ4 ⟨"java/lang/AbstractStringBuilder", "isLatin1", "()Z"⟩ yJ5_isLatin1_aae02, Cond.instanceMethod yJ5_isLatin1_aae02, Cond.code yJ5_isLatin1_aae02 cJ5_isLatin1_aae02 1 (some .boolean), Cond.fieldLink RJ5 18 "java/lang/String" "COMPACT_STRINGS" "Z", Cond.fieldLink RJ5 22 "java/lang/AbstractStringBuilder" "coder" "B", Cond.methodLink RJ0 54 yJ7_copyOfRange_39247, Cond.static yJ7_copyOfRange_39247, Cond.initialized RJ7, Cond.code yJ7_copyOfRange_39247 cJ7_copyOfRange_39247 3 (some (.array .byte)), Cond.methodLink RJ7 310 ⟨"[B", "clone", "()Ljava/lang/Object;"⟩, Cond.sameMethod "[B" "java/lang/Object" "clone" "()Ljava/lang/Object;", Cond.native ⟨"java/lang/Object", "clone", "()Ljava/lang/Object;"⟩, Cond.instanceMethod ⟨"java/lang/Object", "clone", "()Ljava/lang/Object;"⟩, Cond.selects "[B" ⟨"[B", "clone", "()Ljava/lang/Object;"⟩ ⟨"java/lang/Object", "clone", "()Ljava/lang/Object;"⟩, Cond.classLink RJ7 311 "[B", Cond.methodLink RJ7 339 yJ7_copyOfRangeByte_39247]
def wsJ0_init_81219_r3 : List Cond := [Cond.static yJ7_copyOfRangeByte_39247, Cond.code yJ7_copyOfRangeByte_39247 cJ7_copyOfRangeByte_39247 5 (some (.array .byte)), Cond.arrayClass .byte, Cond.methodLink RJ7 304 Lib.Math.min.name, Cond.static Lib.Math.min.name, Cond.initialized "java/lang/Math", Cond.code Lib.Math.min.name Lib.Math.min.code 2 (some .int), Cond.methodLink RJ7 150 arraycopyName, Cond.native arraycopyName, Cond.static arraycopyName, Cond.initialized "java/lang/System", Cond.methodLink RJ7 343 yJ7_checkLength_df160, Cond.static yJ7_checkLength_df160, Cond.code yJ7_checkLength_df160 cJ7_checkLength_df160 2 none, Cond.classLink RJ7 45 RJ4, Cond.instantiable RJ4 4, Cond.methodLink RJ0 1051 yJ2_compress_39247, Cond.static yJ2_compress_39247, Cond.initialized RJ2, Cond.code yJ2_compress_39247 cJ2_compress_39247 6 (some (.array .byte)), Cond.methodLink RJ2 123 yJ2_compress_5af95, Cond.static yJ2_compress_5af95, Cond.code yJ2_compress_5af95 cJ2_compress_5af95 7 (some .int), Cond.methodLink RJ2 173 yJ2_checkBoundsOffCount_d044e]
def wsJ0_init_81219_r4 : List Cond := [Cond.static yJ2_checkBoundsOffCount_d044e, Cond.code yJ2_checkBoundsOffCount_d044e cJ2_checkBoundsOffCount_d044e 3 none, Cond.methodLink RJ2 48 yJ2_length_9d52b, Cond.static yJ2_length_9d52b, Cond.code yJ2_length_9d52b cJ2_length_9d52b 1 (some .int), Cond.methodLink RJ2 419 yJ0_checkBoundsOffCount_cabcc, Cond.static yJ0_checkBoundsOffCount_cabcc, Cond.code yJ0_checkBoundsOffCount_cabcc cJ0_checkBoundsOffCount_cabcc 3 (some .int), Cond.fieldLink RJ0 1053 "jdk/internal/util/Preconditions" "SIOOBE_FORMATTER" "Ljava/util/function/BiFunction;", Cond.methodLink RJ0 1065 yJ3_checkFromIndexSize_8c36e, Cond.static yJ3_checkFromIndexSize_8c36e, Cond.initialized RJ3, Cond.code yJ3_checkFromIndexSize_8c36e cJ3_checkFromIndexSize_8c36e 4 (some .int), Cond.methodLink RJ2 71 yJ2_getChar_3b067, Cond.static yJ2_getChar_3b067, Cond.code yJ2_getChar_3b067 cJ2_getChar_3b067 2 (some .char), Cond.fieldLink RJ2 44 "java/lang/StringUTF16" "$assertionsDisabled" "Z", Cond.fieldLink RJ2 59 "java/lang/StringUTF16" "HI_BYTE_SHIFT" "I", Cond.fieldLink RJ2 63 "java/lang/StringUTF16" "LO_BYTE_SHIFT" "I", Cond.methodLink RJ2 11 yJ2_newBytesLength_0f7a4, Cond.static yJ2_newBytesLength_0f7a4, Cond.code yJ2_newBytesLength_0f7a4 cJ2_newBytesLength_0f7a4 1 (some .int), Cond.constant RJ2 20 (1073741823), Cond.methodLink RJ2 126 yJ7_copyOfRange_39247]
def wsJ0_init_81219_r5 : List Cond := [Cond.methodLink RJ0 47 yJ2_coderFromArrayLen_85cad, Cond.static yJ2_coderFromArrayLen_85cad, Cond.code yJ2_coderFromArrayLen_85cad cJ2_coderFromArrayLen_85cad 2 (some .byte)]
def wsJ0_init_81219 : List Cond := .code yJ0_init_81219 cJ0_init_81219 2 none :: ((wsJ0_init_81219_r1 ++ (wsJ0_init_81219_r2 ++ (wsJ0_init_81219_r3 ++ (wsJ0_init_81219_r4 ++ wsJ0_init_81219_r5)))) ++ wsJ00 ++ wsJ40)
def wsJ4_init_da8c8 : List Cond := .code yJ4_init_da8c8 cJ4_init_da8c8 1 none :: ([.methodLink RJ4 1 yJ5_init_d00df, .instanceMethod yJ5_init_d00df, .initialized RJ5, .code yJ5_init_d00df cJ5_init_d00df 2 none, .methodLink RJ5 3 objectInit, .instanceMethod objectInit, .code objectInit ⟨#[0xb1]⟩ 1 none, .fieldLink RJ5 18 "java/lang/String" "COMPACT_STRINGS" "Z", .arrayClass .byte, .fieldLink RJ5 15 "java/lang/AbstractStringBuilder" "value" "[B", .fieldLink RJ5 22 "java/lang/AbstractStringBuilder" "coder" "B", .methodLink RJ5 26 yJ2_newBytesFor_77867, .static yJ2_newBytesFor_77867, .initialized RJ2, .code yJ2_newBytesFor_77867 cJ2_newBytesFor_77867 1 (some (.array .byte)), .methodLink RJ2 11 yJ2_newBytesLength_0f7a4, .static yJ2_newBytesLength_0f7a4, .code yJ2_newBytesLength_0f7a4 cJ2_newBytesLength_0f7a4 1 (some .int), .constant RJ2 20 (1073741823)] ++ wsJ40)
def wsJ4_append_15ec4_r1 : List Cond := [Cond.methodLink RJ4 29 yJ5_append_cf1ce, Cond.sameMethod "java/lang/AbstractStringBuilder" "java/lang/AbstractStringBuilder" "append" "(Ljava/lang/String;)Ljava/lang/AbstractStringBuilder;", Cond.superclass RJ4 RJ5, Cond.instanceMethod yJ5_append_cf1ce, Cond.initialized RJ5, Cond.code yJ5_append_cf1ce cJ5_append_cf1ce 3 (some (.object "java/lang/AbstractStringBuilder")), Cond.fieldLink RJ5 79 "java/lang/AbstractStringBuilder" "count" "I", Cond.methodLink RJ5 204 ⟨"java/lang/AbstractStringBuilder", "appendNull", "()Ljava/lang/AbstractStringBuilder;"⟩, Cond.sameMethod "java/lang/AbstractStringBuilder" "java/lang/AbstractStringBuilder" "appendNull" "()Ljava/lang/AbstractStringBuilder;", Cond.selects RJ4 ⟨"java/lang/AbstractStringBuilder", "appendNull", "()Ljava/lang/AbstractStringBuilder;"⟩ yJ5_appendNull_278bc, Cond.instanceMethod yJ5_appendNull_278bc, Cond.code yJ5_appendNull_278bc cJ5_appendNull_278bc 3 (some (.object "java/lang/AbstractStringBuilder")), Cond.fieldLink RJ5 15 "java/lang/AbstractStringBuilder" "value" "[B", Cond.methodLink RJ5 100 ⟨"java/lang/AbstractStringBuilder", "ensureCapacityInternal", "(I)V"⟩, Cond.sameMethod "java/lang/AbstractStringBuilder" "java/lang/AbstractStringBuilder" "ensureCapacityInternal" "(I)V", Cond.selects RJ4 ⟨"java/lang/AbstractStringBuilder", "ensureCapacityInternal", "(I)V"⟩ yJ5_ensureCapacityInternal_d00df, Cond.instanceMethod yJ5_ensureCapacityInternal_d00df, Cond.code yJ5_ensureCapacityInternal_d00df cJ5_ensureCapacityInternal_d00df 3 none, Cond.fieldLink RJ5 22 "java/lang/AbstractStringBuilder" "coder" "B", Cond.methodLink RJ5 104 ⟨"java/lang/AbstractStringBuilder", "newCapacity", "(I)I"⟩, Cond.sameMethod "java/lang/AbstractStringBuilder" "java/lang/AbstractStringBuilder" "newCapacity" "(I)I", Cond.selects RJ4 ⟨"java/lang/AbstractStringBuilder", "newCapacity", "(I)I"⟩ yJ5_newCapacity_0f7a4, Cond.instanceMethod yJ5_newCapacity_0f7a4, Cond.code yJ5_newCapacity_0f7a4 cJ5_newCapacity_0f7a4 6 (some .int)]
def wsJ4_append_15ec4_r2 : List Cond := [Cond.constant RJ5 39 (2147483647), Cond.methodLink RJ5 114 yJ8_newLength_cabcc, Cond.static yJ8_newLength_cabcc, Cond.initialized RJ8, Cond.code yJ8_newLength_cabcc cJ8_newLength_cabcc 4 (some .int), Cond.methodLink RJ8 194 Lib.Math.max.name, Cond.static Lib.Math.max.name, Cond.initialized "java/lang/Math", Cond.code Lib.Math.max.name Lib.Math.max.code 2 (some .int), Cond.constant RJ8 200 (2147483639), Cond.methodLink RJ8 201 yJ8_hugeLength_7cf53, Cond.static yJ8_hugeLength_7cf53, Cond.code yJ8_hugeLength_7cf53 cJ8_hugeLength_7cf53 3 (some .int), Cond.methodLink RJ5 108 yJ7_copyOf_9075b, Cond.static yJ7_copyOf_9075b, Cond.initialized RJ7, Cond.code yJ7_copyOf_9075b cJ7_copyOf_9075b 3 (some (.array .byte)), Cond.methodLink RJ7 310 ⟨"[B", "clone", "()Ljava/lang/Object;"⟩, Cond.sameMethod "[B" "java/lang/Object" "clone" "()Ljava/lang/Object;", Cond.native ⟨"java/lang/Object", "clone", "()Ljava/lang/Object;"⟩, Cond.instanceMethod ⟨"java/lang/Object", "clone", "()Ljava/lang/Object;"⟩, Cond.selects "[B" ⟨"[B", "clone", "()Ljava/lang/Object;"⟩ ⟨"java/lang/Object", "clone", "()Ljava/lang/Object;"⟩, Cond.classLink RJ7 311 "[B", Cond.arrayClass .byte]
def wsJ4_append_15ec4_r3 : List Cond := [Cond.methodLink RJ7 304 Lib.Math.min.name, Cond.static Lib.Math.min.name, Cond.code Lib.Math.min.name Lib.Math.min.code 2 (some .int), Cond.methodLink RJ7 150 arraycopyName, Cond.native arraycopyName, Cond.static arraycopyName, Cond.initialized "java/lang/System", Cond.methodLink RJ5 83 ⟨"java/lang/AbstractStringBuilder", "isLatin1", "()Z"⟩, Cond.sameMethod "java/lang/AbstractStringBuilder" "java/lang/AbstractStringBuilder" "isLatin1" "()Z", Cond.selects RJ4 ⟨"java/lang/AbstractStringBuilder", "isLatin1", "()Z"⟩ yJ5_isLatin1_aae02, Cond.instanceMethod yJ5_isLatin1_aae02, Cond.code yJ5_isLatin1_aae02 cJ5_isLatin1_aae02 1 (some .boolean), Cond.fieldLink RJ5 18 "java/lang/String" "COMPACT_STRINGS" "Z", Cond.methodLink RJ5 226 yJ2_putCharsAt_cd4e5, Cond.static yJ2_putCharsAt_cd4e5, Cond.initialized RJ2, Cond.code yJ2_putCharsAt_cd4e5 cJ2_putCharsAt_cd4e5 7 (some .int), Cond.fieldLink RJ2 44 "java/lang/StringUTF16" "$assertionsDisabled" "Z", Cond.methodLink RJ2 96 yJ2_checkBoundsBeginEnd_d044e, Cond.static yJ2_checkBoundsBeginEnd_d044e, Cond.code yJ2_checkBoundsBeginEnd_d044e cJ2_checkBoundsBeginEnd_d044e 3 none, Cond.methodLink RJ2 48 yJ2_length_9d52b, Cond.static yJ2_length_9d52b, Cond.code yJ2_length_9d52b cJ2_length_9d52b 1 (some .int)]
def wsJ4_append_15ec4_r4 : List Cond := [Cond.methodLink RJ2 241 yJ0_checkBoundsBeginEnd_23922, Cond.static yJ0_checkBoundsBeginEnd_23922, Cond.initialized RJ0, Cond.code yJ0_checkBoundsBeginEnd_23922 cJ0_checkBoundsBeginEnd_23922 3 none, Cond.fieldLink RJ0 1053 "jdk/internal/util/Preconditions" "SIOOBE_FORMATTER" "Ljava/util/function/BiFunction;", Cond.methodLink RJ0 1062 yJ3_checkFromToIndex_8c36e, Cond.static yJ3_checkFromToIndex_8c36e, Cond.initialized RJ3, Cond.code yJ3_checkFromToIndex_8c36e cJ3_checkFromToIndex_8c36e 4 (some .int), Cond.methodLink RJ2 111 yJ2_putChar_b72d1, Cond.static yJ2_putChar_b72d1, Cond.code yJ2_putChar_b72d1 cJ2_putChar_b72d1 3 none, Cond.fieldLink RJ2 59 "java/lang/StringUTF16" "HI_BYTE_SHIFT" "I", Cond.fieldLink RJ2 63 "java/lang/StringUTF16" "LO_BYTE_SHIFT" "I", Cond.methodLink RJ5 32 yJ0_length_8abf5, Cond.instanceMethod yJ0_length_8abf5, Cond.selects RJ0 yJ0_length_8abf5 yJ0_length_8abf5, Cond.code yJ0_length_8abf5 cJ0_length_8abf5 1 (some .int), Cond.fieldLink RJ0 9 "java/lang/String" "value" "[B", Cond.methodLink RJ0 335 yJ0_coder_7d493, Cond.instanceMethod yJ0_coder_7d493, Cond.selects RJ0 yJ0_coder_7d493 yJ0_coder_7d493, Cond.code yJ0_coder_7d493 cJ0_coder_7d493 1 (some .byte), Cond.fieldLink RJ0 38 "java/lang/String" "COMPACT_STRINGS" "Z"]
def wsJ4_append_15ec4_r5 : List Cond := [Cond.fieldLink RJ0 15 "java/lang/String" "coder" "B", Cond.methodLink RJ5 208 ⟨"java/lang/AbstractStringBuilder", "putStringAt", "(ILjava/lang/String;)V"⟩, Cond.sameMethod "java/lang/AbstractStringBuilder" "java/lang/AbstractStringBuilder" "putStringAt" "(ILjava/lang/String;)V", Cond.selects RJ4 ⟨"java/lang/AbstractStringBuilder", "putStringAt", "(ILjava/lang/String;)V"⟩ yJ5_putStringAt_47b60, Cond.instanceMethod yJ5_putStringAt_47b60, Cond.code yJ5_putStringAt_47b60 cJ5_putStringAt_47b60 3 none, Cond.methodLink RJ5 397 ⟨"java/lang/AbstractStringBuilder", "inflateIfNeededFor", "(Ljava/lang/String;)V"⟩, Cond.sameMethod "java/lang/AbstractStringBuilder" "java/lang/AbstractStringBuilder" "inflateIfNeededFor" "(Ljava/lang/String;)V", Cond.selects RJ4 ⟨"java/lang/AbstractStringBuilder", "inflateIfNeededFor", "(Ljava/lang/String;)V"⟩ yJ5_inflateIfNeededFor_a7421, Cond.instanceMethod yJ5_inflateIfNeededFor_a7421, Cond.code yJ5_inflateIfNeededFor_a7421 cJ5_inflateIfNeededFor_a7421 2 none, Cond.methodLink RJ5 40 yJ0_coder_7d493, Cond.methodLink RJ5 195 ⟨"java/lang/AbstractStringBuilder", "inflate", "()V"⟩, Cond.sameMethod "java/lang/AbstractStringBuilder" "java/lang/AbstractStringBuilder" "inflate" "()V", Cond.selects RJ4 ⟨"java/lang/AbstractStringBuilder", "inflate", "()V"⟩ yJ5_inflate_da8c8, Cond.instanceMethod yJ5_inflate_da8c8, Cond.code yJ5_inflate_da8c8 cJ5_inflate_da8c8 2 none, Cond.methodLink RJ5 26 yJ2_newBytesFor_77867, Cond.static yJ2_newBytesFor_77867, Cond.code yJ2_newBytesFor_77867 cJ2_newBytesFor_77867 1 (some (.array .byte)), Cond.methodLink RJ2 11 yJ2_newBytesLength_0f7a4, Cond.static yJ2_newBytesLength_0f7a4, Cond.code yJ2_newBytesLength_0f7a4 cJ2_newBytesLength_0f7a4 1 (some .int), Cond.constant RJ2 20 (1073741823)]
def wsJ4_append_15ec4_r6 : List Cond := [Cond.methodLink RJ5 125 yJ1_inflate_0e8fd, Cond.static yJ1_inflate_0e8fd, Cond.initialized RJ1, Cond.code yJ1_inflate_0e8fd cJ1_inflate_0e8fd 5 none, Cond.methodLink RJ1 240 yJ2_inflate_0e8fd, Cond.static yJ2_inflate_0e8fd, Cond.code yJ2_inflate_0e8fd cJ2_inflate_0e8fd 6 none, Cond.methodLink RJ2 173 yJ2_checkBoundsOffCount_d044e, Cond.static yJ2_checkBoundsOffCount_d044e, Cond.code yJ2_checkBoundsOffCount_d044e cJ2_checkBoundsOffCount_d044e 3 none, Cond.methodLink RJ2 419 yJ0_checkBoundsOffCount_cabcc, Cond.static yJ0_checkBoundsOffCount_cabcc, Cond.code yJ0_checkBoundsOffCount_cabcc cJ0_checkBoundsOffCount_cabcc 3 (some .int), Cond.methodLink RJ0 1065 yJ3_checkFromIndexSize_8c36e, Cond.static yJ3_checkFromIndexSize_8c36e, Cond.code yJ3_checkFromIndexSize_8c36e cJ3_checkFromIndexSize_8c36e 4 (some .int), Cond.methodLink RJ5 399 yJ0_getBytes_840e7, Cond.instanceMethod yJ0_getBytes_840e7, Cond.selects RJ0 yJ0_getBytes_840e7 yJ0_getBytes_840e7, Cond.code yJ0_getBytes_840e7 cJ0_getBytes_840e7 4 none, Cond.methodLink RJ0 212 arraycopyName, Cond.methodLink RJ0 106 yJ1_inflate_0e8fd]
def wsJ4_append_15ec4 : List Cond := .code yJ4_append_15ec4 cJ4_append_15ec4 2 (some (.object "java/lang/StringBuilder")) :: ((wsJ4_append_15ec4_r1 ++ (wsJ4_append_15ec4_r2 ++ (wsJ4_append_15ec4_r3 ++ (wsJ4_append_15ec4_r4 ++ (wsJ4_append_15ec4_r5 ++ wsJ4_append_15ec4_r6))))) ++ wsJ40 ++ wsJ00)
def wsJ4_append_bf812_r1 : List Cond := [Cond.methodLink RJ4 53 yJ5_append_c97b9, Cond.sameMethod "java/lang/AbstractStringBuilder" "java/lang/AbstractStringBuilder" "append" "(I)Ljava/lang/AbstractStringBuilder;", Cond.superclass RJ4 RJ5, Cond.instanceMethod yJ5_append_c97b9, Cond.initialized RJ5, Cond.code yJ5_append_c97b9 cJ5_append_c97b9 4 (some (.object "java/lang/AbstractStringBuilder")), Cond.fieldLink RJ5 79 "java/lang/AbstractStringBuilder" "count" "I", Cond.fieldLink RJ5 15 "java/lang/AbstractStringBuilder" "value" "[B", Cond.methodLink RJ5 245 yJ6_stringSize_0f7a4, Cond.static yJ6_stringSize_0f7a4, Cond.initialized RJ6, Cond.code yJ6_stringSize_0f7a4 cJ6_stringSize_0f7a4 4 (some .int), Cond.methodLink RJ5 100 ⟨"java/lang/AbstractStringBuilder", "ensureCapacityInternal", "(I)V"⟩, Cond.sameMethod "java/lang/AbstractStringBuilder" "java/lang/AbstractStringBuilder" "ensureCapacityInternal" "(I)V", Cond.selects RJ4 ⟨"java/lang/AbstractStringBuilder", "ensureCapacityInternal", "(I)V"⟩ yJ5_ensureCapacityInternal_d00df, Cond.instanceMethod yJ5_ensureCapacityInternal_d00df, Cond.code yJ5_ensureCapacityInternal_d00df cJ5_ensureCapacityInternal_d00df 3 none, Cond.fieldLink RJ5 22 "java/lang/AbstractStringBuilder" "coder" "B", Cond.methodLink RJ5 104 ⟨"java/lang/AbstractStringBuilder", "newCapacity", "(I)I"⟩, Cond.sameMethod "java/lang/AbstractStringBuilder" "java/lang/AbstractStringBuilder" "newCapacity" "(I)I", Cond.selects RJ4 ⟨"java/lang/AbstractStringBuilder", "newCapacity", "(I)I"⟩ yJ5_newCapacity_0f7a4, Cond.instanceMethod yJ5_newCapacity_0f7a4, Cond.code yJ5_newCapacity_0f7a4 cJ5_newCapacity_0f7a4 6 (some .int), Cond.constant RJ5 39 (2147483647)]
def wsJ4_append_bf812_r2 : List Cond := [Cond.methodLink RJ5 114 yJ8_newLength_cabcc, Cond.static yJ8_newLength_cabcc, Cond.initialized RJ8, Cond.code yJ8_newLength_cabcc cJ8_newLength_cabcc 4 (some .int), Cond.methodLink RJ8 194 Lib.Math.max.name, Cond.static Lib.Math.max.name, Cond.initialized "java/lang/Math", Cond.code Lib.Math.max.name Lib.Math.max.code 2 (some .int), Cond.constant RJ8 200 (2147483639), Cond.methodLink RJ8 201 yJ8_hugeLength_7cf53, Cond.static yJ8_hugeLength_7cf53, Cond.code yJ8_hugeLength_7cf53 cJ8_hugeLength_7cf53 3 (some .int), Cond.methodLink RJ5 108 yJ7_copyOf_9075b, Cond.static yJ7_copyOf_9075b, Cond.initialized RJ7, Cond.code yJ7_copyOf_9075b cJ7_copyOf_9075b 3 (some (.array .byte)), Cond.methodLink RJ7 310 ⟨"[B", "clone", "()Ljava/lang/Object;"⟩, Cond.sameMethod "[B" "java/lang/Object" "clone" "()Ljava/lang/Object;", Cond.native ⟨"java/lang/Object", "clone", "()Ljava/lang/Object;"⟩, Cond.instanceMethod ⟨"java/lang/Object", "clone", "()Ljava/lang/Object;"⟩, Cond.selects "[B" ⟨"[B", "clone", "()Ljava/lang/Object;"⟩ ⟨"java/lang/Object", "clone", "()Ljava/lang/Object;"⟩, Cond.classLink RJ7 311 "[B", Cond.arrayClass .byte, Cond.methodLink RJ7 304 Lib.Math.min.name]
def wsJ4_append_bf812_r3 : List Cond := [Cond.static Lib.Math.min.name, Cond.code Lib.Math.min.name Lib.Math.min.code 2 (some .int), Cond.methodLink RJ7 150 arraycopyName, Cond.native arraycopyName, Cond.static arraycopyName, Cond.initialized "java/lang/System", Cond.methodLink RJ5 83 ⟨"java/lang/AbstractStringBuilder", "isLatin1", "()Z"⟩, Cond.sameMethod "java/lang/AbstractStringBuilder" "java/lang/AbstractStringBuilder" "isLatin1" "()Z", Cond.selects RJ4 ⟨"java/lang/AbstractStringBuilder", "isLatin1", "()Z"⟩ yJ5_isLatin1_aae02, Cond.instanceMethod yJ5_isLatin1_aae02, Cond.code yJ5_isLatin1_aae02 cJ5_isLatin1_aae02 1 (some .boolean), Cond.fieldLink RJ5 18 "java/lang/String" "COMPACT_STRINGS" "Z", Cond.methodLink RJ5 248 yJ6_getChars_ba4f3, Cond.static yJ6_getChars_ba4f3, Cond.code yJ6_getChars_ba4f3 cJ6_getChars_ba4f3 7 (some .int), Cond.fieldLink RJ6 83 "java/lang/Integer" "DigitOnes" "[B", Cond.fieldLink RJ6 87 "java/lang/Integer" "DigitTens" "[B", Cond.methodLink RJ5 251 yJ2_getChars_46870, Cond.static yJ2_getChars_46870, Cond.initialized RJ2, Cond.code yJ2_getChars_46870 cJ2_getChars_46870 5 (some .int), Cond.fieldLink RJ2 44 "java/lang/StringUTF16" "$assertionsDisabled" "Z", Cond.methodLink RJ2 96 yJ2_checkBoundsBeginEnd_d044e, Cond.static yJ2_checkBoundsBeginEnd_d044e]
def wsJ4_append_bf812_r4 : List Cond := [Cond.code yJ2_checkBoundsBeginEnd_d044e cJ2_checkBoundsBeginEnd_d044e 3 none, Cond.methodLink RJ2 48 yJ2_length_9d52b, Cond.static yJ2_length_9d52b, Cond.code yJ2_length_9d52b cJ2_length_9d52b 1 (some .int), Cond.methodLink RJ2 241 yJ0_checkBoundsBeginEnd_23922, Cond.static yJ0_checkBoundsBeginEnd_23922, Cond.initialized RJ0, Cond.code yJ0_checkBoundsBeginEnd_23922 cJ0_checkBoundsBeginEnd_23922 3 none, Cond.fieldLink RJ0 1053 "jdk/internal/util/Preconditions" "SIOOBE_FORMATTER" "Ljava/util/function/BiFunction;", Cond.methodLink RJ0 1062 yJ3_checkFromToIndex_8c36e, Cond.static yJ3_checkFromToIndex_8c36e, Cond.initialized RJ3, Cond.code yJ3_checkFromToIndex_8c36e cJ3_checkFromToIndex_8c36e 4 (some .int), Cond.methodLink RJ2 393 yJ2_getChars_ba4f3, Cond.static yJ2_getChars_ba4f3, Cond.code yJ2_getChars_ba4f3 cJ2_getChars_ba4f3 7 (some .int), Cond.fieldLink RJ2 403 "java/lang/Integer" "DigitOnes" "[B", Cond.fieldLink RJ2 407 "java/lang/Integer" "DigitTens" "[B", Cond.methodLink RJ2 111 yJ2_putChar_b72d1, Cond.static yJ2_putChar_b72d1, Cond.code yJ2_putChar_b72d1 cJ2_putChar_b72d1 3 none, Cond.fieldLink RJ2 59 "java/lang/StringUTF16" "HI_BYTE_SHIFT" "I", Cond.fieldLink RJ2 63 "java/lang/StringUTF16" "LO_BYTE_SHIFT" "I"]
def wsJ4_append_bf812 : List Cond := .code yJ4_append_bf812 cJ4_append_bf812 2 (some (.object "java/lang/StringBuilder")) :: ((wsJ4_append_bf812_r1 ++ (wsJ4_append_bf812_r2 ++ (wsJ4_append_bf812_r3 ++ wsJ4_append_bf812_r4))) ++ wsJ40)
def wsJ4_toString_0e30d_r1 : List Cond := [Cond.classLink RJ4 18 RJ0, Cond.instantiable RJ0 4, Cond.initialized RJ0, Cond.methodLink RJ4 137 yJ0_init_81219, Cond.instanceMethod yJ0_init_81219, Cond.code yJ0_init_81219 cJ0_init_81219 2 none, Cond.methodLink RJ0 489 yJ0_init_db425, Cond.instanceMethod yJ0_init_db425, Cond.code yJ0_init_db425 cJ0_init_db425 5 none, Cond.methodLink RJ0 1 objectInit, Cond.instanceMethod objectInit, Cond.code objectInit ⟨#[0xb1]⟩ 1 none, Cond.fieldLink RJ0 15 "java/lang/String" "coder" "B", Cond.fieldLink RJ0 9 "java/lang/String" "value" "[B", Cond.fieldLink RJ0 38 "java/lang/String" "COMPACT_STRINGS" "Z", Cond.fieldLink RJ0 1048 "java/lang/AbstractStringBuilder" "maybeLatin1" "Z", Cond.methodLink RJ0 552 ⟨"java/lang/AbstractStringBuilder", "getValue", "()[B"⟩, Cond.sameMethod "java/lang/AbstractStringBuilder" "java/lang/AbstractStringBuilder" "getValue" "()[B", Cond.selects RJ4 ⟨"java/lang/AbstractStringBuilder", "getValue", "()[B"⟩ yJ5_getValue_6d5f1, Cond.instanceMethod yJ5_getValue_6d5f1, Cond.initialized RJ5, Cond.code yJ5_getValue_6d5f1 cJ5_getValue_6d5f1 1 (some (.array .byte)), Cond.fieldLink RJ5 15 "java/lang/AbstractStringBuilder" "value" "[B", Cond.methodLink RJ0 549 ⟨"java/lang/AbstractStringBuilder", "length", "()I"⟩]
def wsJ4_toString_0e30d_r2 : List Cond := [Cond.sameMethod "java/lang/AbstractStringBuilder" "java/lang/AbstractStringBuilder" "length" "()I", Cond.instanceMethod ⟨"java/lang/AbstractStringBuilder", "length", "()I"⟩, Cond.selects RJ4 ⟨"java/lang/AbstractStringBuilder", "length", "()I"⟩ yJ4_length_8abf5, Cond.instanceMethod yJ4_length_8abf5, Cond.initialized RJ4, Cond.code yJ4_length_8abf5 cJ4_length_8abf5 1 (some .int), Cond.methodLink RJ4 343 yJ5_length_8abf5, Cond.superclass RJ4 RJ5, Cond.instanceMethod yJ5_length_8abf5, Cond.code yJ5_length_8abf5 cJ5_length_8abf5 1 (some .int), Cond.fieldLink RJ5 79 "java/lang/AbstractStringBuilder" "count" "I", Cond.methodLink RJ0 1047 ⟨"java/lang/AbstractStringBuilder", "isLatin1", "()Z"⟩, Cond.sameMethod "java/lang/AbstractStringBuilder" "java/lang/AbstractStringBuilder" "isLatin1" "()Z", Cond.selects RJ4 ⟨"java/lang/AbstractStringBuilder", "isLatin1", "()Z"⟩ yJ5_isLatin1_aae02, Cond.instanceMethod yJ5_isLatin1_aae02, Cond.code yJ5_isLatin1_aae02 cJ5_isLatin1_aae02 1 (some .boolean), Cond.fieldLink RJ5 18 "java/lang/String" "COMPACT_STRINGS" "Z", Cond.fieldLink RJ5 22 "java/lang/AbstractStringBuilder" "coder" "B", Cond.methodLink RJ0 54 yJ7_copyOfRange_39247, Cond.static yJ7_copyOfRange_39247, Cond.initialized RJ7, Cond.code yJ7_copyOfRange_39247 cJ7_copyOfRange_39247 3 (some (.array .byte)), Cond.methodLink RJ7 310 ⟨"[B", "clone", "()Ljava/lang/Object;"⟩, Cond.sameMethod "[B" "java/lang/Object" "clone" "()Ljava/lang/Object;"]
def wsJ4_toString_0e30d_r3 : List Cond := [Cond.native ⟨"java/lang/Object", "clone", "()Ljava/lang/Object;"⟩, Cond.instanceMethod ⟨"java/lang/Object", "clone", "()Ljava/lang/Object;"⟩, Cond.selects "[B" ⟨"[B", "clone", "()Ljava/lang/Object;"⟩ ⟨"java/lang/Object", "clone", "()Ljava/lang/Object;"⟩, Cond.classLink RJ7 311 "[B", Cond.methodLink RJ7 339 yJ7_copyOfRangeByte_39247, Cond.static yJ7_copyOfRangeByte_39247, Cond.code yJ7_copyOfRangeByte_39247 cJ7_copyOfRangeByte_39247 5 (some (.array .byte)), Cond.arrayClass .byte, Cond.methodLink RJ7 304 Lib.Math.min.name, Cond.static Lib.Math.min.name, Cond.initialized "java/lang/Math", Cond.code Lib.Math.min.name Lib.Math.min.code 2 (some .int), Cond.methodLink RJ7 150 arraycopyName, Cond.native arraycopyName, Cond.static arraycopyName, Cond.initialized "java/lang/System", Cond.methodLink RJ7 343 yJ7_checkLength_df160, Cond.static yJ7_checkLength_df160, Cond.code yJ7_checkLength_df160 cJ7_checkLength_df160 2 none, Cond.classLink RJ7 45 RJ4, Cond.instantiable RJ4 4, Cond.methodLink RJ0 1051 yJ2_compress_39247, Cond.static yJ2_compress_39247, Cond.initialized RJ2]
def wsJ4_toString_0e30d_r4 : List Cond := [Cond.code yJ2_compress_39247 cJ2_compress_39247 6 (some (.array .byte)), Cond.methodLink RJ2 123 yJ2_compress_5af95, Cond.static yJ2_compress_5af95, Cond.code yJ2_compress_5af95 cJ2_compress_5af95 7 (some .int), Cond.methodLink RJ2 173 yJ2_checkBoundsOffCount_d044e, Cond.static yJ2_checkBoundsOffCount_d044e, Cond.code yJ2_checkBoundsOffCount_d044e cJ2_checkBoundsOffCount_d044e 3 none, Cond.methodLink RJ2 48 yJ2_length_9d52b, Cond.static yJ2_length_9d52b, Cond.code yJ2_length_9d52b cJ2_length_9d52b 1 (some .int), Cond.methodLink RJ2 419 yJ0_checkBoundsOffCount_cabcc, Cond.static yJ0_checkBoundsOffCount_cabcc, Cond.code yJ0_checkBoundsOffCount_cabcc cJ0_checkBoundsOffCount_cabcc 3 (some .int), Cond.fieldLink RJ0 1053 "jdk/internal/util/Preconditions" "SIOOBE_FORMATTER" "Ljava/util/function/BiFunction;", Cond.methodLink RJ0 1065 yJ3_checkFromIndexSize_8c36e, Cond.static yJ3_checkFromIndexSize_8c36e, Cond.initialized RJ3, Cond.code yJ3_checkFromIndexSize_8c36e cJ3_checkFromIndexSize_8c36e 4 (some .int), Cond.methodLink RJ2 71 yJ2_getChar_3b067, Cond.static yJ2_getChar_3b067, Cond.code yJ2_getChar_3b067 cJ2_getChar_3b067 2 (some .char), Cond.fieldLink RJ2 44 "java/lang/StringUTF16" "$assertionsDisabled" "Z", Cond.fieldLink RJ2 59 "java/lang/StringUTF16" "HI_BYTE_SHIFT" "I", Cond.fieldLink RJ2 63 "java/lang/StringUTF16" "LO_BYTE_SHIFT" "I"]
def wsJ4_toString_0e30d_r5 : List Cond := [Cond.methodLink RJ2 11 yJ2_newBytesLength_0f7a4, Cond.static yJ2_newBytesLength_0f7a4, Cond.code yJ2_newBytesLength_0f7a4 cJ2_newBytesLength_0f7a4 1 (some .int), Cond.constant RJ2 20 (1073741823), Cond.methodLink RJ2 126 yJ7_copyOfRange_39247, Cond.methodLink RJ0 47 yJ2_coderFromArrayLen_85cad, Cond.static yJ2_coderFromArrayLen_85cad, Cond.code yJ2_coderFromArrayLen_85cad cJ2_coderFromArrayLen_85cad 2 (some .byte)]
def wsJ4_toString_0e30d : List Cond := .code yJ4_toString_0e30d cJ4_toString_0e30d 1 (some (.object "java/lang/String")) :: ((wsJ4_toString_0e30d_r1 ++ (wsJ4_toString_0e30d_r2 ++ (wsJ4_toString_0e30d_r3 ++ (wsJ4_toString_0e30d_r4 ++ wsJ4_toString_0e30d_r5)))) ++ wsJ00 ++ wsJ40)
abbrev vwCl : List vw_C := [(RJ0, TJ0, 4), (RJ4, TJ4, 4), (RJx00060, TJx00060, 6), (RX2, TX2, 7), (RX3, TX3, 15), (RX4, TX4, 3), (RX5, TX5, 10)]
end
section
set_option maxRecDepth 20000 in
theorem ggX1_refusalIn_Jx29ce0_ordinal_8abf5 : GoodIn wsX1_refusalIn wsJx29ce0_ordinal_8abf5 := goodIn_r _ [7, 8] (by decide +kernel) (by decide +kernel)
set_option maxRecDepth 20000 in
theorem gX1_refusalIn_Jx29ce0_ordinal_8abf5_u74X1 : GoodIn wsX1_refusalIn (va_wsU RX1 74 RX1 "java/lang/Enum" ⟨"HatReservations$Command", "ordinal", "()I"⟩ yJx29ce0_ordinal_8abf5 wsJx29ce0_ordinal_8abf5) := goodIn_app (goodIn_of _ (by decide +kernel)) ggX1_refusalIn_Jx29ce0_ordinal_8abf5
set_option maxRecDepth 20000 in
theorem ggX1_refusalIn_X3_refusalOfGuest : GoodIn wsX1_refusalIn wsX3_refusalOfGuest := goodIn_r _ [13, 14, 70, 71, 72, 73, 74, 75, 76, 77, 78, 79, 80, 81, 82, 83, 84] (by decide +kernel) (by decide +kernel)
set_option maxRecDepth 20000 in
theorem gX1_refusalIn_X3_refusalOfGuest : GoodIn wsX1_refusalIn (wsV RX1 78 RX3 yX3_refusalOfGuest wsX3_refusalOfGuest) := goodIn_app (goodIn_of _ (by decide +kernel)) ggX1_refusalIn_X3_refusalOfGuest
set_option maxRecDepth 20000 in
theorem ggX1_refusalIn_X3_refusalOfHat : GoodIn wsX1_refusalIn wsX3_refusalOfHat := goodIn_ca (goodIn_r _ [18, 19, 20, 21, 12, 22, 14, 23, 24, 25, 26, 27, 28, 29, 30, 31, 32, 33, 34, 35, 70, 71, 72, 73, 74, 75, 76, 77, 78, 79, 80, 81, 82, 83, 84] (by decide +kernel) (by decide +kernel)) (goodIn_sub (fun _ h => List.mem_cons_of_mem _ (List.mem_append_right _ h)) (by decide +kernel))
set_option maxRecDepth 20000 in
theorem gX1_refusalIn_X3_refusalOfHat : GoodIn wsX1_refusalIn (wsV RX1 84 RX3 yX3_refusalOfHat wsX3_refusalOfHat) := goodIn_app (goodIn_of _ (by decide +kernel)) ggX1_refusalIn_X3_refusalOfHat
set_option maxRecDepth 20000 in
theorem ggX1_refusalIn_X3_refusalWithoutHat : GoodIn wsX1_refusalIn wsX3_refusalWithoutHat := goodIn_ca (goodIn_r _ [39, 19, 20, 21, 12, 22, 14, 26, 27, 28, 29, 30, 70, 71, 72, 73, 74, 75, 76, 77, 78, 79, 80, 81, 82, 83, 84] (by decide +kernel) (by decide +kernel)) (goodIn_sub (fun _ h => List.mem_cons_of_mem _ (List.mem_append_right _ h)) (by decide +kernel))
set_option maxRecDepth 20000 in
theorem gX1_refusalIn_X3_refusalWithoutHat : GoodIn wsX1_refusalIn (wsV RX1 87 RX3 yX3_refusalWithoutHat wsX3_refusalWithoutHat) := goodIn_app (goodIn_of _ (by decide +kernel)) ggX1_refusalIn_X3_refusalWithoutHat
set_option maxRecDepth 20000 in
theorem ggX1_refusalIn_X3_refusalOfCoat : GoodIn wsX1_refusalIn wsX3_refusalOfCoat := goodIn_ca (goodIn_r _ [43, 44, 19, 20, 21, 12, 22, 14, 23, 24, 25, 31, 32, 33, 34, 35, 45, 46, 47, 48, 70, 71, 72, 73, 74, 75, 76, 77, 78, 79, 80, 81, 82, 83, 84] (by decide +kernel) (by decide +kernel)) (goodIn_sub (fun _ h => List.mem_cons_of_mem _ (List.mem_append_right _ h)) (by decide +kernel))
set_option maxRecDepth 20000 in
theorem gX1_refusalIn_X3_refusalOfCoat : GoodIn wsX1_refusalIn (wsV RX1 91 RX3 yX3_refusalOfCoat wsX3_refusalOfCoat) := goodIn_app (goodIn_of _ (by decide +kernel)) ggX1_refusalIn_X3_refusalOfCoat
set_option maxRecDepth 20000 in
theorem ggX1_refusalIn_X3_refusalWithoutCoat : GoodIn wsX1_refusalIn wsX3_refusalWithoutCoat := goodIn_ca (goodIn_r _ [52, 44, 19, 20, 21, 12, 22, 14, 70, 71, 72, 73, 74, 75, 76, 77, 78, 79, 80, 81, 82, 83, 84] (by decide +kernel) (by decide +kernel)) (goodIn_sub (fun _ h => List.mem_cons_of_mem _ (List.mem_append_right _ h)) (by decide +kernel))
set_option maxRecDepth 20000 in
theorem gX1_refusalIn_X3_refusalWithoutCoat : GoodIn wsX1_refusalIn (wsV RX1 94 RX3 yX3_refusalWithoutCoat wsX3_refusalWithoutCoat) := goodIn_app (goodIn_of _ (by decide +kernel)) ggX1_refusalIn_X3_refusalWithoutCoat
set_option maxRecDepth 20000 in
theorem ggX1_refusalIn_X3_refusalOfContest : GoodIn wsX1_refusalIn wsX3_refusalOfContest := goodIn_ca (goodIn_r _ [56, 19, 20, 21, 12, 22, 14, 23, 24, 25, 31, 32, 33, 34, 35, 26, 27, 28, 29, 30, 70, 71, 72, 73, 74, 75, 76, 77, 78, 79, 80, 81, 82, 83, 84] (by decide +kernel) (by decide +kernel)) (goodIn_sub (fun _ h => List.mem_cons_of_mem _ (List.mem_append_right _ h)) (by decide +kernel))
set_option maxRecDepth 20000 in
theorem gX1_refusalIn_X3_refusalOfContest : GoodIn wsX1_refusalIn (wsV RX1 97 RX3 yX3_refusalOfContest wsX3_refusalOfContest) := goodIn_app (goodIn_of _ (by decide +kernel)) ggX1_refusalIn_X3_refusalOfContest
set_option maxRecDepth 20000 in
theorem ggX1_refusalIn_X3_refusalOfPass : GoodIn wsX1_refusalIn wsX3_refusalOfPass := goodIn_r _ [60] (by decide +kernel) (by decide +kernel)
set_option maxRecDepth 20000 in
theorem gX1_refusalIn_X3_refusalOfPass : GoodIn wsX1_refusalIn (wsV RX1 100 RX3 yX3_refusalOfPass wsX3_refusalOfPass) := goodIn_app (goodIn_of _ (by decide +kernel)) ggX1_refusalIn_X3_refusalOfPass
set_option maxRecDepth 20000 in
theorem ggX1_refusalIn_X3_refusalOfSweep : GoodIn wsX1_refusalIn wsX3_refusalOfSweep := goodIn_r _ [64] (by decide +kernel) (by decide +kernel)
set_option maxRecDepth 20000 in
theorem gX1_refusalIn_X3_refusalOfSweep : GoodIn wsX1_refusalIn (wsV RX1 103 RX3 yX3_refusalOfSweep wsX3_refusalOfSweep) := goodIn_app (goodIn_of _ (by decide +kernel)) ggX1_refusalIn_X3_refusalOfSweep
set_option maxRecDepth 20000 in
theorem ggX1_refusalIn_X3_refusalOfFeather : GoodIn wsX1_refusalIn wsX3_refusalOfFeather := goodIn_ca (goodIn_r _ [68, 69, 19, 20, 21, 12, 22, 14, 70, 71, 72, 73, 74, 75, 76, 77, 78, 79, 80, 81, 82, 83, 84] (by decide +kernel) (by decide +kernel)) (goodIn_sub (fun _ h => List.mem_cons_of_mem _ (List.mem_append_right _ h)) (by decide +kernel))
set_option maxRecDepth 20000 in
theorem gX1_refusalIn_X3_refusalOfFeather : GoodIn wsX1_refusalIn (wsV RX1 106 RX3 yX3_refusalOfFeather wsX3_refusalOfFeather) := goodIn_app (goodIn_of _ (by decide +kernel)) ggX1_refusalIn_X3_refusalOfFeather
theorem dX1_refusalIn_0 : decode cX1_refusalIn 0 = .ok (.getstatic 68, 3) := by decide +kernel
theorem dX1_refusalIn_3 : decode cX1_refusalIn 3 = .ok (.aload_n 0, 1) := by decide +kernel
theorem dX1_refusalIn_4 : decode cX1_refusalIn 4 = .ok (.invokevirtual 74, 3) := by decide +kernel
theorem dX1_refusalIn_7 : decode cX1_refusalIn 7 = .ok (.iaload, 1) := by decide +kernel
theorem dX1_refusalIn_8 : decode cX1_refusalIn 8 = .ok (.tableswitch 104 1 9 #[52, 59, 66, 66, 72, 79, 85, 92, 98], 52) := by decide +kernel
theorem dX1_refusalIn_60 : decode cX1_refusalIn 60 = .ok (.aload_n 1, 1) := by decide +kernel
theorem dX1_refusalIn_61 : decode cX1_refusalIn 61 = .ok (.iload_n 2, 1) := by decide +kernel
theorem dX1_refusalIn_62 : decode cX1_refusalIn 62 = .ok (.iload_n 3, 1) := by decide +kernel
theorem dX1_refusalIn_63 : decode cX1_refusalIn 63 = .ok (.invokevirtual 78, 3) := by decide +kernel
theorem dX1_refusalIn_66 : decode cX1_refusalIn 66 = .ok (.ireturn, 1) := by decide +kernel
theorem dX1_refusalIn_67 : decode cX1_refusalIn 67 = .ok (.aload_n 1, 1) := by decide +kernel
theorem dX1_refusalIn_68 : decode cX1_refusalIn 68 = .ok (.iload_n 2, 1) := by decide +kernel
theorem dX1_refusalIn_69 : decode cX1_refusalIn 69 = .ok (.iload_n 3, 1) := by decide +kernel
theorem dX1_refusalIn_70 : decode cX1_refusalIn 70 = .ok (.invokevirtual 84, 3) := by decide +kernel
theorem dX1_refusalIn_73 : decode cX1_refusalIn 73 = .ok (.ireturn, 1) := by decide +kernel
theorem dX1_refusalIn_74 : decode cX1_refusalIn 74 = .ok (.aload_n 1, 1) := by decide +kernel
theorem dX1_refusalIn_75 : decode cX1_refusalIn 75 = .ok (.iload_n 2, 1) := by decide +kernel
theorem dX1_refusalIn_76 : decode cX1_refusalIn 76 = .ok (.invokevirtual 87, 3) := by decide +kernel
theorem dX1_refusalIn_79 : decode cX1_refusalIn 79 = .ok (.ireturn, 1) := by decide +kernel
theorem dX1_refusalIn_80 : decode cX1_refusalIn 80 = .ok (.aload_n 1, 1) := by decide +kernel
theorem dX1_refusalIn_81 : decode cX1_refusalIn 81 = .ok (.iload_n 2, 1) := by decide +kernel
theorem dX1_refusalIn_82 : decode cX1_refusalIn 82 = .ok (.iload_n 3, 1) := by decide +kernel
theorem dX1_refusalIn_83 : decode cX1_refusalIn 83 = .ok (.invokevirtual 91, 3) := by decide +kernel
theorem dX1_refusalIn_86 : decode cX1_refusalIn 86 = .ok (.ireturn, 1) := by decide +kernel
theorem dX1_refusalIn_87 : decode cX1_refusalIn 87 = .ok (.aload_n 1, 1) := by decide +kernel
theorem dX1_refusalIn_88 : decode cX1_refusalIn 88 = .ok (.iload_n 2, 1) := by decide +kernel
theorem dX1_refusalIn_89 : decode cX1_refusalIn 89 = .ok (.invokevirtual 94, 3) := by decide +kernel
theorem dX1_refusalIn_92 : decode cX1_refusalIn 92 = .ok (.ireturn, 1) := by decide +kernel
theorem dX1_refusalIn_93 : decode cX1_refusalIn 93 = .ok (.aload_n 1, 1) := by decide +kernel
theorem dX1_refusalIn_94 : decode cX1_refusalIn 94 = .ok (.iload_n 2, 1) := by decide +kernel
theorem dX1_refusalIn_95 : decode cX1_refusalIn 95 = .ok (.iload_n 3, 1) := by decide +kernel
theorem dX1_refusalIn_96 : decode cX1_refusalIn 96 = .ok (.invokevirtual 97, 3) := by decide +kernel
theorem dX1_refusalIn_99 : decode cX1_refusalIn 99 = .ok (.ireturn, 1) := by decide +kernel
theorem dX1_refusalIn_100 : decode cX1_refusalIn 100 = .ok (.aload_n 1, 1) := by decide +kernel
theorem dX1_refusalIn_101 : decode cX1_refusalIn 101 = .ok (.iload_n 2, 1) := by decide +kernel
theorem dX1_refusalIn_102 : decode cX1_refusalIn 102 = .ok (.invokevirtual 100, 3) := by decide +kernel
theorem dX1_refusalIn_105 : decode cX1_refusalIn 105 = .ok (.ireturn, 1) := by decide +kernel
theorem dX1_refusalIn_106 : decode cX1_refusalIn 106 = .ok (.aload_n 1, 1) := by decide +kernel
theorem dX1_refusalIn_107 : decode cX1_refusalIn 107 = .ok (.iload_n 2, 1) := by decide +kernel
theorem dX1_refusalIn_108 : decode cX1_refusalIn 108 = .ok (.invokevirtual 103, 3) := by decide +kernel
theorem dX1_refusalIn_111 : decode cX1_refusalIn 111 = .ok (.ireturn, 1) := by decide +kernel
theorem dX1_refusalIn_112 : decode cX1_refusalIn 112 = .ok (.aload_n 1, 1) := by decide +kernel
theorem dX1_refusalIn_113 : decode cX1_refusalIn 113 = .ok (.iload_n 2, 1) := by decide +kernel
theorem dX1_refusalIn_114 : decode cX1_refusalIn 114 = .ok (.invokevirtual 106, 3) := by decide +kernel
theorem dX1_refusalIn_117 : decode cX1_refusalIn 117 = .ok (.ireturn, 1) := by decide +kernel
set_option maxRecDepth 20000 in
theorem ggX1_carryOutIn_Jx29ce0_ordinal_8abf5 : GoodIn wsX1_carryOutIn wsJx29ce0_ordinal_8abf5 := goodIn_r _ [7, 8] (by decide +kernel) (by decide +kernel)
set_option maxRecDepth 20000 in
theorem gX1_carryOutIn_Jx29ce0_ordinal_8abf5_u74X1 : GoodIn wsX1_carryOutIn (va_wsU RX1 74 RX1 "java/lang/Enum" ⟨"HatReservations$Command", "ordinal", "()I"⟩ yJx29ce0_ordinal_8abf5 wsJx29ce0_ordinal_8abf5) := goodIn_app (goodIn_of _ (by decide +kernel)) ggX1_carryOutIn_Jx29ce0_ordinal_8abf5
set_option maxRecDepth 20000 in
theorem ggX1_carryOutIn_X3_welcome : GoodIn wsX1_carryOutIn wsX3_welcome := goodIn_ca (goodIn_r _ [13, 14, 15, 16, 126, 127, 128, 129, 130, 131, 132, 133, 134, 135, 136, 137, 138, 139, 140] (by decide +kernel) (by decide +kernel)) (goodIn_sub (fun _ h => List.mem_cons_of_mem _ (List.mem_append_right _ h)) (by decide +kernel))
set_option maxRecDepth 20000 in
theorem gX1_carryOutIn_X3_welcome : GoodIn wsX1_carryOutIn (wsV RX1 109 RX3 yX3_welcome wsX3_welcome) := goodIn_app (goodIn_of _ (by decide +kernel)) ggX1_carryOutIn_X3_welcome
set_option maxRecDepth 20000 in
theorem ggX1_carryOutIn_X3_putHat : GoodIn wsX1_carryOutIn wsX3_putHat := goodIn_ca (goodIn_r _ [20, 21, 22, 23, 24, 16, 25, 26, 27, 12, 28, 29, 30, 31, 32, 33, 34, 35, 36, 37, 38, 126, 127, 128, 129, 130, 131, 132, 133, 134, 135, 136, 137, 138, 139, 140] (by decide +kernel) (by decide +kernel)) (goodIn_sub (fun _ h => List.mem_cons_of_mem _ (List.mem_append_right _ h)) (by decide +kernel))
set_option maxRecDepth 20000 in
theorem gX1_carryOutIn_X3_putHat : GoodIn wsX1_carryOutIn (wsV RX1 112 RX3 yX3_putHat wsX3_putHat) := goodIn_app (goodIn_of _ (by decide +kernel)) ggX1_carryOutIn_X3_putHat
set_option maxRecDepth 20000 in
theorem ggX1_carryOutIn_X3_giveChairsBack : GoodIn wsX1_carryOutIn wsX3_giveChairsBack := goodIn_ca (goodIn_r _ [42, 43, 44, 45, 12, 46, 24, 21, 47, 48, 49, 50, 51, 52, 53, 54, 55, 56, 57, 58, 59, 60, 61, 62, 63, 64, 65, 66, 67, 68, 69, 70, 71, 72, 73, 74, 75, 18, 19, 20, 22, 23, 16, 25, 26, 27, 28, 29, 30, 31, 32, 33, 34, 35, 36, 37, 38, 126, 127, 128, 129, 130, 131, 132, 133, 134, 135, 136, 137, 138, 139, 140] (by decide +kernel) (by decide +kernel)) (goodIn_sub (fun _ h => List.mem_cons_of_mem _ (List.mem_append_right _ h)) (by decide +kernel))
set_option maxRecDepth 20000 in
theorem gX1_carryOutIn_X3_giveChairsBack : GoodIn wsX1_carryOutIn (wsV RX1 115 RX3 yX3_giveChairsBack wsX3_giveChairsBack) := goodIn_app (goodIn_of _ (by decide +kernel)) ggX1_carryOutIn_X3_giveChairsBack
set_option maxRecDepth 20000 in
theorem ggX1_carryOutIn_X3_startIdleTimeAgain : GoodIn wsX1_carryOutIn wsX3_startIdleTimeAgain := goodIn_ca (goodIn_r _ [79, 22, 23, 80, 81, 82, 12, 83, 126, 127, 128, 129, 130, 131, 132, 133, 134, 135, 136, 137, 138, 139, 140] (by decide +kernel) (by decide +kernel)) (goodIn_sub (fun _ h => List.mem_cons_of_mem _ (List.mem_append_right _ h)) (by decide +kernel))
set_option maxRecDepth 20000 in
theorem gX1_carryOutIn_X3_startIdleTimeAgain : GoodIn wsX1_carryOutIn (wsV RX1 118 RX3 yX3_startIdleTimeAgain wsX3_startIdleTimeAgain) := goodIn_app (goodIn_of _ (by decide +kernel)) ggX1_carryOutIn_X3_startIdleTimeAgain
set_option maxRecDepth 20000 in
theorem ggX1_carryOutIn_X3_putCoat : GoodIn wsX1_carryOutIn wsX3_putCoat := goodIn_ca (goodIn_r _ [87, 88, 89, 66, 65, 90, 91, 92, 12, 93, 126, 127, 128, 129, 130, 131, 132, 133, 134, 135, 136, 137, 138, 139, 140] (by decide +kernel) (by decide +kernel)) (goodIn_sub (fun _ h => List.mem_cons_of_mem _ (List.mem_append_right _ h)) (by decide +kernel))
set_option maxRecDepth 20000 in
theorem gX1_carryOutIn_X3_putCoat : GoodIn wsX1_carryOutIn (wsV RX1 121 RX3 yX3_putCoat wsX3_putCoat) := goodIn_app (goodIn_of _ (by decide +kernel)) ggX1_carryOutIn_X3_putCoat
set_option maxRecDepth 20000 in
theorem ggX1_carryOutIn_X3_pullCoat : GoodIn wsX1_carryOutIn wsX3_pullCoat := goodIn_ca (goodIn_r _ [70, 65, 66, 126, 127, 128, 129, 130, 131, 132, 133, 134, 135, 136, 137, 138, 139, 140] (by decide +kernel) (by decide +kernel)) (goodIn_sub (fun _ h => List.mem_cons_of_mem _ (List.mem_append_right _ h)) (by decide +kernel))
set_option maxRecDepth 20000 in
theorem gX1_carryOutIn_X3_pullCoat : GoodIn wsX1_carryOutIn (wsV RX1 124 RX3 yX3_pullCoat wsX3_pullCoat) := goodIn_app (goodIn_of _ (by decide +kernel)) ggX1_carryOutIn_X3_pullCoat
set_option maxRecDepth 20000 in
theorem ggX1_carryOutIn_X3_fightFor : GoodIn wsX1_carryOutIn wsX3_fightFor := goodIn_ca (goodIn_r _ [98, 15, 99, 100, 101, 102, 103, 51, 52, 53, 12, 54, 24, 104, 105, 106, 107, 108, 109, 110, 111, 21, 112, 43, 44, 45, 46, 75, 18, 19, 20, 22, 23, 16, 25, 26, 27, 28, 29, 30, 31, 32, 33, 34, 35, 36, 37, 38, 47, 48, 49, 50, 55, 56, 57, 58, 59, 60, 61, 62, 63, 64, 65, 66, 67, 68, 69, 70, 71, 72, 73, 74, 126, 127, 128, 129, 130, 131, 132, 133, 134, 135, 136, 137, 138, 139, 140] (by decide +kernel) (by decide +kernel)) (goodIn_sub (fun _ h => List.mem_cons_of_mem _ (List.mem_append_right _ h)) (by decide +kernel))
set_option maxRecDepth 20000 in
theorem gX1_carryOutIn_X3_fightFor : GoodIn wsX1_carryOutIn (wsV RX1 127 RX3 yX3_fightFor wsX3_fightFor) := goodIn_app (goodIn_of _ (by decide +kernel)) ggX1_carryOutIn_X3_fightFor
set_option maxRecDepth 20000 in
theorem ggX1_carryOutIn_X3_letPass : GoodIn wsX1_carryOutIn wsX3_letPass := goodIn_r _ [116, 23, 126, 127, 128, 129, 130, 131, 132, 133, 134, 135, 136, 137, 138, 139, 140] (by decide +kernel) (by decide +kernel)
set_option maxRecDepth 20000 in
theorem gX1_carryOutIn_X3_letPass : GoodIn wsX1_carryOutIn (wsV RX1 131 RX3 yX3_letPass wsX3_letPass) := goodIn_app (goodIn_of _ (by decide +kernel)) ggX1_carryOutIn_X3_letPass
set_option maxRecDepth 20000 in
theorem ggX1_carryOutIn_X3_sweepHats : GoodIn wsX1_carryOutIn wsX3_sweepHats := goodIn_ca (goodIn_r _ [120, 121, 71, 72, 73, 12, 74, 21, 80, 81, 82, 83, 23, 22, 43, 44, 45, 46, 24, 47, 48, 49, 50, 51, 52, 53, 54, 55, 56, 57, 58, 59, 60, 61, 62, 63, 64, 65, 66, 67, 68, 69, 70, 75, 18, 19, 20, 16, 25, 26, 27, 28, 29, 30, 31, 32, 33, 34, 35, 36, 37, 38, 126, 127, 128, 129, 130, 131, 132, 133, 134, 135, 136, 137, 138, 139, 140] (by decide +kernel) (by decide +kernel)) (goodIn_sub (fun _ h => List.mem_cons_of_mem _ (List.mem_append_right _ h)) (by decide +kernel))
set_option maxRecDepth 20000 in
theorem gX1_carryOutIn_X3_sweepHats : GoodIn wsX1_carryOutIn (wsV RX1 134 RX3 yX3_sweepHats wsX3_sweepHats) := goodIn_app (goodIn_of _ (by decide +kernel)) ggX1_carryOutIn_X3_sweepHats
set_option maxRecDepth 20000 in
theorem ggX1_carryOutIn_X3_gainFeather : GoodIn wsX1_carryOutIn wsX3_gainFeather := goodIn_ca (goodIn_r _ [125, 15, 126, 127, 128, 129, 130, 131, 132, 133, 134, 135, 136, 137, 138, 139, 140] (by decide +kernel) (by decide +kernel)) (goodIn_sub (fun _ h => List.mem_cons_of_mem _ (List.mem_append_right _ h)) (by decide +kernel))
set_option maxRecDepth 20000 in
theorem gX1_carryOutIn_X3_gainFeather : GoodIn wsX1_carryOutIn (wsV RX1 137 RX3 yX3_gainFeather wsX3_gainFeather) := goodIn_app (goodIn_of _ (by decide +kernel)) ggX1_carryOutIn_X3_gainFeather
theorem dX1_carryOutIn_0 : decode cX1_carryOutIn 0 = .ok (.getstatic 68, 3) := by decide +kernel
theorem dX1_carryOutIn_3 : decode cX1_carryOutIn 3 = .ok (.aload_n 0, 1) := by decide +kernel
theorem dX1_carryOutIn_4 : decode cX1_carryOutIn 4 = .ok (.invokevirtual 74, 3) := by decide +kernel
theorem dX1_carryOutIn_7 : decode cX1_carryOutIn 7 = .ok (.iaload, 1) := by decide +kernel
theorem dX1_carryOutIn_8 : decode cX1_carryOutIn 8 = .ok (.tableswitch 137 1 9 #[52, 62, 72, 81, 90, 100, 109, 119, 128], 52) := by decide +kernel
theorem dX1_carryOutIn_60 : decode cX1_carryOutIn 60 = .ok (.aload_n 1, 1) := by decide +kernel
theorem dX1_carryOutIn_61 : decode cX1_carryOutIn 61 = .ok (.iload_n 2, 1) := by decide +kernel
theorem dX1_carryOutIn_62 : decode cX1_carryOutIn 62 = .ok (.iload_n 3, 1) := by decide +kernel
theorem dX1_carryOutIn_63 : decode cX1_carryOutIn 63 = .ok (.invokevirtual 109, 3) := by decide +kernel
theorem dX1_carryOutIn_66 : decode cX1_carryOutIn 66 = .ok (.pop, 1) := by decide +kernel
theorem dX1_carryOutIn_67 : decode cX1_carryOutIn 67 = .ok (.goto 84, 3) := by decide +kernel
theorem dX1_carryOutIn_70 : decode cX1_carryOutIn 70 = .ok (.aload_n 1, 1) := by decide +kernel
theorem dX1_carryOutIn_71 : decode cX1_carryOutIn 71 = .ok (.iload_n 2, 1) := by decide +kernel
theorem dX1_carryOutIn_72 : decode cX1_carryOutIn 72 = .ok (.iload_n 3, 1) := by decide +kernel
theorem dX1_carryOutIn_73 : decode cX1_carryOutIn 73 = .ok (.invokevirtual 112, 3) := by decide +kernel
theorem dX1_carryOutIn_76 : decode cX1_carryOutIn 76 = .ok (.pop, 1) := by decide +kernel
theorem dX1_carryOutIn_77 : decode cX1_carryOutIn 77 = .ok (.goto 74, 3) := by decide +kernel
theorem dX1_carryOutIn_80 : decode cX1_carryOutIn 80 = .ok (.aload_n 1, 1) := by decide +kernel
theorem dX1_carryOutIn_81 : decode cX1_carryOutIn 81 = .ok (.iload_n 2, 1) := by decide +kernel
theorem dX1_carryOutIn_82 : decode cX1_carryOutIn 82 = .ok (.invokevirtual 115, 3) := by decide +kernel
theorem dX1_carryOutIn_85 : decode cX1_carryOutIn 85 = .ok (.pop, 1) := by decide +kernel
theorem dX1_carryOutIn_86 : decode cX1_carryOutIn 86 = .ok (.goto 65, 3) := by decide +kernel
theorem dX1_carryOutIn_89 : decode cX1_carryOutIn 89 = .ok (.aload_n 1, 1) := by decide +kernel
theorem dX1_carryOutIn_90 : decode cX1_carryOutIn 90 = .ok (.iload_n 2, 1) := by decide +kernel
theorem dX1_carryOutIn_91 : decode cX1_carryOutIn 91 = .ok (.invokevirtual 118, 3) := by decide +kernel
theorem dX1_carryOutIn_94 : decode cX1_carryOutIn 94 = .ok (.pop, 1) := by decide +kernel
theorem dX1_carryOutIn_95 : decode cX1_carryOutIn 95 = .ok (.goto 56, 3) := by decide +kernel
theorem dX1_carryOutIn_98 : decode cX1_carryOutIn 98 = .ok (.aload_n 1, 1) := by decide +kernel
theorem dX1_carryOutIn_99 : decode cX1_carryOutIn 99 = .ok (.iload_n 2, 1) := by decide +kernel
theorem dX1_carryOutIn_100 : decode cX1_carryOutIn 100 = .ok (.iload_n 3, 1) := by decide +kernel
theorem dX1_carryOutIn_101 : decode cX1_carryOutIn 101 = .ok (.invokevirtual 121, 3) := by decide +kernel
theorem dX1_carryOutIn_104 : decode cX1_carryOutIn 104 = .ok (.pop, 1) := by decide +kernel
theorem dX1_carryOutIn_105 : decode cX1_carryOutIn 105 = .ok (.goto 46, 3) := by decide +kernel
theorem dX1_carryOutIn_108 : decode cX1_carryOutIn 108 = .ok (.aload_n 1, 1) := by decide +kernel
theorem dX1_carryOutIn_109 : decode cX1_carryOutIn 109 = .ok (.iload_n 2, 1) := by decide +kernel
theorem dX1_carryOutIn_110 : decode cX1_carryOutIn 110 = .ok (.invokevirtual 124, 3) := by decide +kernel
theorem dX1_carryOutIn_113 : decode cX1_carryOutIn 113 = .ok (.pop, 1) := by decide +kernel
theorem dX1_carryOutIn_114 : decode cX1_carryOutIn 114 = .ok (.goto 37, 3) := by decide +kernel
theorem dX1_carryOutIn_117 : decode cX1_carryOutIn 117 = .ok (.aload_n 1, 1) := by decide +kernel
theorem dX1_carryOutIn_118 : decode cX1_carryOutIn 118 = .ok (.iload_n 2, 1) := by decide +kernel
theorem dX1_carryOutIn_119 : decode cX1_carryOutIn 119 = .ok (.iload_n 3, 1) := by decide +kernel
theorem dX1_carryOutIn_120 : decode cX1_carryOutIn 120 = .ok (.invokevirtual 127, 3) := by decide +kernel
theorem dX1_carryOutIn_123 : decode cX1_carryOutIn 123 = .ok (.pop, 1) := by decide +kernel
theorem dX1_carryOutIn_124 : decode cX1_carryOutIn 124 = .ok (.goto 27, 3) := by decide +kernel
theorem dX1_carryOutIn_127 : decode cX1_carryOutIn 127 = .ok (.aload_n 1, 1) := by decide +kernel
theorem dX1_carryOutIn_128 : decode cX1_carryOutIn 128 = .ok (.iload_n 2, 1) := by decide +kernel
theorem dX1_carryOutIn_129 : decode cX1_carryOutIn 129 = .ok (.invokevirtual 131, 3) := by decide +kernel
theorem dX1_carryOutIn_132 : decode cX1_carryOutIn 132 = .ok (.pop, 1) := by decide +kernel
theorem dX1_carryOutIn_133 : decode cX1_carryOutIn 133 = .ok (.goto 18, 3) := by decide +kernel
theorem dX1_carryOutIn_136 : decode cX1_carryOutIn 136 = .ok (.aload_n 1, 1) := by decide +kernel
theorem dX1_carryOutIn_137 : decode cX1_carryOutIn 137 = .ok (.iload_n 2, 1) := by decide +kernel
theorem dX1_carryOutIn_138 : decode cX1_carryOutIn 138 = .ok (.invokevirtual 134, 3) := by decide +kernel
theorem dX1_carryOutIn_141 : decode cX1_carryOutIn 141 = .ok (.pop, 1) := by decide +kernel
theorem dX1_carryOutIn_142 : decode cX1_carryOutIn 142 = .ok (.goto 9, 3) := by decide +kernel
theorem dX1_carryOutIn_145 : decode cX1_carryOutIn 145 = .ok (.aload_n 1, 1) := by decide +kernel
theorem dX1_carryOutIn_146 : decode cX1_carryOutIn 146 = .ok (.iload_n 2, 1) := by decide +kernel
theorem dX1_carryOutIn_147 : decode cX1_carryOutIn 147 = .ok (.invokevirtual 137, 3) := by decide +kernel
theorem dX1_carryOutIn_150 : decode cX1_carryOutIn 150 = .ok (.pop, 1) := by decide +kernel
theorem dX1_carryOutIn_151 : decode cX1_carryOutIn 151 = .ok (.return_, 1) := by decide +kernel
theorem dX2_init_0 : decode cX2_init 0 = .ok (.aload_n 0, 1) := by decide +kernel
theorem dX2_init_1 : decode cX2_init 1 = .ok (.invokespecial 3, 3) := by decide +kernel
theorem dX2_init_4 : decode cX2_init 4 = .ok (.aload_n 0, 1) := by decide +kernel
theorem dX2_init_5 : decode cX2_init 5 = .ok (.bipush 60, 2) := by decide +kernel
theorem dX2_init_7 : decode cX2_init 7 = .ok (.newarray .char, 2) := by decide +kernel
theorem dX2_init_9 : decode cX2_init 9 = .ok (.putfield 9, 3) := by decide +kernel
theorem dX2_init_12 : decode cX2_init 12 = .ok (.aload_n 0, 1) := by decide +kernel
theorem dX2_init_13 : decode cX2_init 13 = .ok (.iconst 0, 1) := by decide +kernel
theorem dX2_init_14 : decode cX2_init 14 = .ok (.putfield 15, 3) := by decide +kernel
theorem dX2_init_17 : decode cX2_init 17 = .ok (.aload_n 0, 1) := by decide +kernel
theorem dX2_init_18 : decode cX2_init 18 = .ok (.bipush 10, 2) := by decide +kernel
theorem dX2_init_20 : decode cX2_init 20 = .ok (.anewarray 19, 3) := by decide +kernel
theorem dX2_init_23 : decode cX2_init 23 = .ok (.putfield 21, 3) := by decide +kernel
theorem dX2_init_26 : decode cX2_init 26 = .ok (.aload_n 0, 1) := by decide +kernel
theorem dX2_init_27 : decode cX2_init 27 = .ok (.bipush 10, 2) := by decide +kernel
theorem dX2_init_29 : decode cX2_init 29 = .ok (.newarray .int, 2) := by decide +kernel
theorem dX2_init_31 : decode cX2_init 31 = .ok (.putfield 25, 3) := by decide +kernel
theorem dX2_init_34 : decode cX2_init 34 = .ok (.aload_n 0, 1) := by decide +kernel
theorem dX2_init_35 : decode cX2_init 35 = .ok (.bipush 10, 2) := by decide +kernel
theorem dX2_init_37 : decode cX2_init 37 = .ok (.newarray .int, 2) := by decide +kernel
theorem dX2_init_39 : decode cX2_init 39 = .ok (.putfield 29, 3) := by decide +kernel
theorem dX2_init_42 : decode cX2_init 42 = .ok (.aload_n 0, 1) := by decide +kernel
theorem dX2_init_43 : decode cX2_init 43 = .ok (.iconst 0, 1) := by decide +kernel
theorem dX2_init_44 : decode cX2_init 44 = .ok (.putfield 32, 3) := by decide +kernel
theorem dX2_init_47 : decode cX2_init 47 = .ok (.aload_n 0, 1) := by decide +kernel
theorem dX2_init_48 : decode cX2_init 48 = .ok (.iconst 0, 1) := by decide +kernel
theorem dX2_init_49 : decode cX2_init 49 = .ok (.putfield 35, 3) := by decide +kernel
theorem dX2_init_52 : decode cX2_init 52 = .ok (.iconst 0, 1) := by decide +kernel
theorem dX2_init_53 : decode cX2_init 53 = .ok (.istore_n 1, 1) := by decide +kernel
theorem dX2_init_54 : decode cX2_init 54 = .ok (.iload_n 1, 1) := by decide +kernel
theorem dX2_init_55 : decode cX2_init 55 = .ok (.bipush 10, 2) := by decide +kernel
theorem dX2_init_57 : decode cX2_init 57 = .ok (.if_icmp .ge 18, 3) := by decide +kernel
theorem dX2_init_60 : decode cX2_init 60 = .ok (.aload_n 0, 1) := by decide +kernel
theorem dX2_init_61 : decode cX2_init 61 = .ok (.getfield 21, 3) := by decide +kernel
theorem dX2_init_64 : decode cX2_init 64 = .ok (.iload_n 1, 1) := by decide +kernel
theorem dX2_init_65 : decode cX2_init 65 = .ok (.getstatic 38, 3) := by decide +kernel
theorem dX2_init_68 : decode cX2_init 68 = .ok (.aastore, 1) := by decide +kernel
theorem dX2_init_69 : decode cX2_init 69 = .ok (.iinc 1 1, 3) := by decide +kernel
theorem dX2_init_72 : decode cX2_init 72 = .ok (.goto (-18), 3) := by decide +kernel
theorem dX2_init_75 : decode cX2_init 75 = .ok (.return_, 1) := by decide +kernel
theorem dX2_isFull_0 : decode cX2_isFull 0 = .ok (.aload_n 0, 1) := by decide +kernel
theorem dX2_isFull_1 : decode cX2_isFull 1 = .ok (.getfield 15, 3) := by decide +kernel
theorem dX2_isFull_4 : decode cX2_isFull 4 = .ok (.bipush 60, 2) := by decide +kernel
theorem dX2_isFull_6 : decode cX2_isFull 6 = .ok (.if_icmp .lt 7, 3) := by decide +kernel
theorem dX2_isFull_9 : decode cX2_isFull 9 = .ok (.iconst 1, 1) := by decide +kernel
theorem dX2_isFull_10 : decode cX2_isFull 10 = .ok (.goto 4, 3) := by decide +kernel
theorem dX2_isFull_13 : decode cX2_isFull 13 = .ok (.iconst 0, 1) := by decide +kernel
theorem dX2_isFull_14 : decode cX2_isFull 14 = .ok (.ireturn, 1) := by decide +kernel
theorem dX2_add_0 : decode cX2_add 0 = .ok (.aload_n 0, 1) := by decide +kernel
theorem dX2_add_1 : decode cX2_add 1 = .ok (.getfield 9, 3) := by decide +kernel
theorem dX2_add_4 : decode cX2_add 4 = .ok (.aload_n 0, 1) := by decide +kernel
theorem dX2_add_5 : decode cX2_add 5 = .ok (.getfield 15, 3) := by decide +kernel
theorem dX2_add_8 : decode cX2_add 8 = .ok (.iload_n 1, 1) := by decide +kernel
theorem dX2_add_9 : decode cX2_add 9 = .ok (.castore, 1) := by decide +kernel
theorem dX2_add_10 : decode cX2_add 10 = .ok (.aload_n 0, 1) := by decide +kernel
theorem dX2_add_11 : decode cX2_add 11 = .ok (.dup, 1) := by decide +kernel
theorem dX2_add_12 : decode cX2_add 12 = .ok (.getfield 15, 3) := by decide +kernel
theorem dX2_add_15 : decode cX2_add 15 = .ok (.iconst 1, 1) := by decide +kernel
theorem dX2_add_16 : decode cX2_add 16 = .ok (.iadd, 1) := by decide +kernel
theorem dX2_add_17 : decode cX2_add 17 = .ok (.putfield 15, 3) := by decide +kernel
theorem dX2_add_20 : decode cX2_add 20 = .ok (.aload_n 0, 1) := by decide +kernel
theorem dX2_add_21 : decode cX2_add 21 = .ok (.getfield 15, 3) := by decide +kernel
theorem dX2_add_24 : decode cX2_add 24 = .ok (.ireturn, 1) := by decide +kernel
theorem dX2_empty_0 : decode cX2_empty 0 = .ok (.aload_n 0, 1) := by decide +kernel
theorem dX2_empty_1 : decode cX2_empty 1 = .ok (.iconst 0, 1) := by decide +kernel
theorem dX2_empty_2 : decode cX2_empty 2 = .ok (.putfield 15, 3) := by decide +kernel
theorem dX2_empty_5 : decode cX2_empty 5 = .ok (.return_, 1) := by decide +kernel
set_option maxRecDepth 20000 in
theorem ggX2_read_X2_readCommand : GoodIn wsX2_read wsX2_readCommand := goodIn_ca (goodIn_r _ [8, 9, 10, 11, 12, 13, 14, 15, 16, 17, 7, 18, 1, 19, 20, 21, 22, 23, 24, 25, 26, 27, 3, 28, 29, 30, 31, 32, 33, 34, 35, 36, 37, 38, 39, 40, 41, 42, 43, 44, 45, 46, 47, 48, 49, 50, 51, 52, 53, 54, 55, 56, 57, 58, 59, 60, 61, 62, 63, 64, 65, 66, 67, 68, 69, 70, 71, 72, 73, 74, 75, 76, 77, 78, 79, 80, 81, 82, 83, 84, 85, 86, 87, 88, 89, 90, 91, 92, 93, 94, 95, 96, 97, 98, 99, 100] (by decide +kernel) (by decide +kernel)) (goodIn_sub (fun _ h => List.mem_cons_of_mem _ (List.mem_append_right _ h)) (by decide +kernel))
set_option maxRecDepth 20000 in
theorem gX2_read_X2_readCommand : GoodIn wsX2_read (wsV RX2 42 RX2 yX2_readCommand wsX2_readCommand) := goodIn_app (goodIn_of _ (by decide +kernel)) ggX2_read_X2_readCommand
set_option maxRecDepth 20000 in
theorem ggX2_read_X2_readSign : GoodIn wsX2_read wsX2_readSign := goodIn_ca (goodIn_r _ [89, 1, 3, 28, 90, 91, 92, 93, 94, 95, 96] (by decide +kernel) (by decide +kernel)) (goodIn_sub (fun _ h => List.mem_cons_of_mem _ (List.mem_append_right _ h)) (by decide +kernel))
set_option maxRecDepth 20000 in
theorem gX2_read_X2_readSign : GoodIn wsX2_read (wsV RX2 46 RX2 yX2_readSign wsX2_readSign) := goodIn_app (goodIn_of _ (by decide +kernel)) ggX2_read_X2_readSign
theorem dX2_read_0 : decode cX2_read 0 = .ok (.aload_n 0, 1) := by decide +kernel
theorem dX2_read_1 : decode cX2_read 1 = .ok (.iconst 0, 1) := by decide +kernel
theorem dX2_read_2 : decode cX2_read 2 = .ok (.putfield 35, 3) := by decide +kernel
theorem dX2_read_5 : decode cX2_read 5 = .ok (.aload_n 0, 1) := by decide +kernel
theorem dX2_read_6 : decode cX2_read 6 = .ok (.iconst 0, 1) := by decide +kernel
theorem dX2_read_7 : decode cX2_read 7 = .ok (.putfield 32, 3) := by decide +kernel
theorem dX2_read_10 : decode cX2_read 10 = .ok (.iconst 0, 1) := by decide +kernel
theorem dX2_read_11 : decode cX2_read 11 = .ok (.istore_n 1, 1) := by decide +kernel
theorem dX2_read_12 : decode cX2_read 12 = .ok (.iload_n 1, 1) := by decide +kernel
theorem dX2_read_13 : decode cX2_read 13 = .ok (.bipush 10, 2) := by decide +kernel
theorem dX2_read_15 : decode cX2_read 15 = .ok (.if_icmp .ge 53, 3) := by decide +kernel
theorem dX2_read_18 : decode cX2_read 18 = .ok (.aload_n 0, 1) := by decide +kernel
theorem dX2_read_19 : decode cX2_read 19 = .ok (.iload_n 1, 1) := by decide +kernel
theorem dX2_read_20 : decode cX2_read 20 = .ok (.invokevirtual 42, 3) := by decide +kernel
theorem dX2_read_23 : decode cX2_read 23 = .ok (.ifCond .ne 5, 3) := by decide +kernel
theorem dX2_read_26 : decode cX2_read 26 = .ok (.iconst 0, 1) := by decide +kernel
theorem dX2_read_27 : decode cX2_read 27 = .ok (.ireturn, 1) := by decide +kernel
theorem dX2_read_28 : decode cX2_read 28 = .ok (.aload_n 0, 1) := by decide +kernel
theorem dX2_read_29 : decode cX2_read 29 = .ok (.dup, 1) := by decide +kernel
theorem dX2_read_30 : decode cX2_read 30 = .ok (.getfield 32, 3) := by decide +kernel
theorem dX2_read_33 : decode cX2_read 33 = .ok (.iconst 1, 1) := by decide +kernel
theorem dX2_read_34 : decode cX2_read 34 = .ok (.iadd, 1) := by decide +kernel
theorem dX2_read_35 : decode cX2_read 35 = .ok (.putfield 32, 3) := by decide +kernel
theorem dX2_read_38 : decode cX2_read 38 = .ok (.aload_n 0, 1) := by decide +kernel
theorem dX2_read_39 : decode cX2_read 39 = .ok (.getfield 35, 3) := by decide +kernel
theorem dX2_read_42 : decode cX2_read 42 = .ok (.aload_n 0, 1) := by decide +kernel
theorem dX2_read_43 : decode cX2_read 43 = .ok (.getfield 15, 3) := by decide +kernel
theorem dX2_read_46 : decode cX2_read 46 = .ok (.if_icmp .ne 5, 3) := by decide +kernel
theorem dX2_read_49 : decode cX2_read 49 = .ok (.iconst 1, 1) := by decide +kernel
theorem dX2_read_50 : decode cX2_read 50 = .ok (.ireturn, 1) := by decide +kernel
theorem dX2_read_51 : decode cX2_read 51 = .ok (.aload_n 0, 1) := by decide +kernel
theorem dX2_read_52 : decode cX2_read 52 = .ok (.bipush 59, 2) := by decide +kernel
theorem dX2_read_54 : decode cX2_read 54 = .ok (.invokevirtual 46, 3) := by decide +kernel
theorem dX2_read_57 : decode cX2_read 57 = .ok (.ifCond .ne 5, 3) := by decide +kernel
theorem dX2_read_60 : decode cX2_read 60 = .ok (.iconst 0, 1) := by decide +kernel
theorem dX2_read_61 : decode cX2_read 61 = .ok (.ireturn, 1) := by decide +kernel
theorem dX2_read_62 : decode cX2_read 62 = .ok (.iinc 1 1, 3) := by decide +kernel
theorem dX2_read_65 : decode cX2_read 65 = .ok (.goto (-53), 3) := by decide +kernel
theorem dX2_read_68 : decode cX2_read 68 = .ok (.iconst 0, 1) := by decide +kernel
theorem dX2_read_69 : decode cX2_read 69 = .ok (.ireturn, 1) := by decide +kernel
set_option maxRecDepth 20000 in
theorem ggX2_readCommand_X2_readKeyword : GoodIn wsX2_readCommand wsX2_readKeyword := goodIn_ca (goodIn_r _ [11, 12, 13, 14, 15, 16, 17, 18, 19, 20, 10, 21, 22, 23, 24, 25, 26, 27, 28, 29, 30, 31, 32, 33, 34, 35, 36, 37, 38, 39, 40, 41, 42, 43, 44, 45, 46, 47, 48, 49, 50, 51, 52, 53, 54, 55, 56, 57, 58, 59, 60, 61, 62, 63, 64, 65, 66, 67, 68, 69, 70, 71, 72, 85, 86, 87, 88, 89, 90, 91, 92, 93, 94, 95] (by decide +kernel) (by decide +kernel)) (goodIn_sub (fun _ h => List.mem_cons_of_mem _ (List.mem_append_right _ h)) (by decide +kernel))
set_option maxRecDepth 20000 in
theorem gX2_readCommand_X2_readKeyword : GoodIn wsX2_readCommand (wsV RX2 50 RX2 yX2_readKeyword wsX2_readKeyword) := goodIn_app (goodIn_of _ (by decide +kernel)) ggX2_readCommand_X2_readKeyword
set_option maxRecDepth 20000 in
theorem ggX2_readCommand_X2_readNumber : GoodIn wsX2_readCommand wsX2_readNumber := goodIn_ca (goodIn_r _ [76, 23, 12, 77, 78, 79, 10, 80, 22, 85, 86, 87, 88, 89, 90, 91] (by decide +kernel) (by decide +kernel)) (goodIn_sub (fun _ h => List.mem_cons_of_mem _ (List.mem_append_right _ h)) (by decide +kernel))
set_option maxRecDepth 20000 in
theorem gX2_readCommand_X2_readNumber : GoodIn wsX2_readCommand (wsV RX2 57 RX2 yX2_readNumber wsX2_readNumber) := goodIn_app (goodIn_of _ (by decide +kernel)) ggX2_readCommand_X2_readNumber
set_option maxRecDepth 20000 in
theorem ggX2_readCommand_X2_readSign : GoodIn wsX2_readCommand wsX2_readSign := goodIn_ca (goodIn_r _ [84, 12, 22, 23, 85, 86, 87, 88, 89, 90, 91] (by decide +kernel) (by decide +kernel)) (goodIn_sub (fun _ h => List.mem_cons_of_mem _ (List.mem_append_right _ h)) (by decide +kernel))
set_option maxRecDepth 20000 in
theorem gX2_readCommand_X2_readSign : GoodIn wsX2_readCommand (wsV RX2 46 RX2 yX2_readSign wsX2_readSign) := goodIn_app (goodIn_of _ (by decide +kernel)) ggX2_readCommand_X2_readSign
theorem dX2_readCommand_0 : decode cX2_readCommand 0 = .ok (.aload_n 0, 1) := by decide +kernel
theorem dX2_readCommand_1 : decode cX2_readCommand 1 = .ok (.invokevirtual 50, 3) := by decide +kernel
theorem dX2_readCommand_4 : decode cX2_readCommand 4 = .ok (.astore_n 2, 1) := by decide +kernel
theorem dX2_readCommand_5 : decode cX2_readCommand 5 = .ok (.aload_n 2, 1) := by decide +kernel
theorem dX2_readCommand_6 : decode cX2_readCommand 6 = .ok (.ifnonnull 5, 3) := by decide +kernel
theorem dX2_readCommand_9 : decode cX2_readCommand 9 = .ok (.iconst 0, 1) := by decide +kernel
theorem dX2_readCommand_10 : decode cX2_readCommand 10 = .ok (.ireturn, 1) := by decide +kernel
theorem dX2_readCommand_11 : decode cX2_readCommand 11 = .ok (.aload_n 0, 1) := by decide +kernel
theorem dX2_readCommand_12 : decode cX2_readCommand 12 = .ok (.aload_n 2, 1) := by decide +kernel
theorem dX2_readCommand_13 : decode cX2_readCommand 13 = .ok (.getfield 54, 3) := by decide +kernel
theorem dX2_readCommand_16 : decode cX2_readCommand 16 = .ok (.invokevirtual 57, 3) := by decide +kernel
theorem dX2_readCommand_19 : decode cX2_readCommand 19 = .ok (.istore_n 3, 1) := by decide +kernel
theorem dX2_readCommand_20 : decode cX2_readCommand 20 = .ok (.iload_n 3, 1) := by decide +kernel
theorem dX2_readCommand_21 : decode cX2_readCommand 21 = .ok (.iconst (-1), 1) := by decide +kernel
theorem dX2_readCommand_22 : decode cX2_readCommand 22 = .ok (.if_icmp .eq 19, 3) := by decide +kernel
theorem dX2_readCommand_25 : decode cX2_readCommand 25 = .ok (.aload_n 2, 1) := by decide +kernel
theorem dX2_readCommand_26 : decode cX2_readCommand 26 = .ok (.getfield 61, 3) := by decide +kernel
theorem dX2_readCommand_29 : decode cX2_readCommand 29 = .ok (.ifCond .eq 14, 3) := by decide +kernel
theorem dX2_readCommand_32 : decode cX2_readCommand 32 = .ok (.aload_n 0, 1) := by decide +kernel
theorem dX2_readCommand_33 : decode cX2_readCommand 33 = .ok (.bipush 32, 2) := by decide +kernel
theorem dX2_readCommand_35 : decode cX2_readCommand 35 = .ok (.invokevirtual 46, 3) := by decide +kernel
theorem dX2_readCommand_38 : decode cX2_readCommand 38 = .ok (.ifCond .ne 5, 3) := by decide +kernel
theorem dX2_readCommand_41 : decode cX2_readCommand 41 = .ok (.iconst 0, 1) := by decide +kernel
theorem dX2_readCommand_42 : decode cX2_readCommand 42 = .ok (.ireturn, 1) := by decide +kernel
theorem dX2_readCommand_43 : decode cX2_readCommand 43 = .ok (.aload_n 2, 1) := by decide +kernel
theorem dX2_readCommand_44 : decode cX2_readCommand 44 = .ok (.getfield 65, 3) := by decide +kernel
theorem dX2_readCommand_47 : decode cX2_readCommand 47 = .ok (.ifCond .ne 7, 3) := by decide +kernel
theorem dX2_readCommand_50 : decode cX2_readCommand 50 = .ok (.iconst 0, 1) := by decide +kernel
theorem dX2_readCommand_51 : decode cX2_readCommand 51 = .ok (.goto 11, 3) := by decide +kernel
theorem dX2_readCommand_54 : decode cX2_readCommand 54 = .ok (.aload_n 0, 1) := by decide +kernel
theorem dX2_readCommand_55 : decode cX2_readCommand 55 = .ok (.aload_n 2, 1) := by decide +kernel
theorem dX2_readCommand_56 : decode cX2_readCommand 56 = .ok (.getfield 65, 3) := by decide +kernel
theorem dX2_readCommand_59 : decode cX2_readCommand 59 = .ok (.invokevirtual 57, 3) := by decide +kernel
theorem dX2_readCommand_62 : decode cX2_readCommand 62 = .ok (.istore 4, 2) := by decide +kernel
theorem dX2_readCommand_64 : decode cX2_readCommand 64 = .ok (.iload 4, 2) := by decide +kernel
theorem dX2_readCommand_66 : decode cX2_readCommand 66 = .ok (.iconst (-1), 1) := by decide +kernel
theorem dX2_readCommand_67 : decode cX2_readCommand 67 = .ok (.if_icmp .ne 5, 3) := by decide +kernel
theorem dX2_readCommand_70 : decode cX2_readCommand 70 = .ok (.iconst 0, 1) := by decide +kernel
theorem dX2_readCommand_71 : decode cX2_readCommand 71 = .ok (.ireturn, 1) := by decide +kernel
theorem dX2_readCommand_72 : decode cX2_readCommand 72 = .ok (.aload_n 0, 1) := by decide +kernel
theorem dX2_readCommand_73 : decode cX2_readCommand 73 = .ok (.getfield 21, 3) := by decide +kernel
theorem dX2_readCommand_76 : decode cX2_readCommand 76 = .ok (.iload_n 1, 1) := by decide +kernel
theorem dX2_readCommand_77 : decode cX2_readCommand 77 = .ok (.aload_n 2, 1) := by decide +kernel
theorem dX2_readCommand_78 : decode cX2_readCommand 78 = .ok (.aastore, 1) := by decide +kernel
theorem dX2_readCommand_79 : decode cX2_readCommand 79 = .ok (.aload_n 0, 1) := by decide +kernel
theorem dX2_readCommand_80 : decode cX2_readCommand 80 = .ok (.getfield 25, 3) := by decide +kernel
theorem dX2_readCommand_83 : decode cX2_readCommand 83 = .ok (.iload_n 1, 1) := by decide +kernel
theorem dX2_readCommand_84 : decode cX2_readCommand 84 = .ok (.iload_n 3, 1) := by decide +kernel
theorem dX2_readCommand_85 : decode cX2_readCommand 85 = .ok (.iastore, 1) := by decide +kernel
theorem dX2_readCommand_86 : decode cX2_readCommand 86 = .ok (.aload_n 0, 1) := by decide +kernel
theorem dX2_readCommand_87 : decode cX2_readCommand 87 = .ok (.getfield 29, 3) := by decide +kernel
theorem dX2_readCommand_90 : decode cX2_readCommand 90 = .ok (.iload_n 1, 1) := by decide +kernel
theorem dX2_readCommand_91 : decode cX2_readCommand 91 = .ok (.iload 4, 2) := by decide +kernel
theorem dX2_readCommand_93 : decode cX2_readCommand 93 = .ok (.iastore, 1) := by decide +kernel
theorem dX2_readCommand_94 : decode cX2_readCommand 94 = .ok (.iconst 1, 1) := by decide +kernel
theorem dX2_readCommand_95 : decode cX2_readCommand 95 = .ok (.ireturn, 1) := by decide +kernel
set_option maxRecDepth 20000 in
theorem ggX2_readKeyword_X2_countMatched : GoodIn wsX2_readKeyword wsX2_countMatched := goodIn_ca (goodIn_r _ [11, 12, 13, 14, 15, 16, 17, 18, 19, 20, 21, 22, 23, 24, 25, 26, 27, 28, 29, 30, 31, 32, 33, 34, 35, 36, 37, 38, 39, 40, 41, 42, 43, 44, 45, 46, 47, 48, 49, 50, 51, 52, 53, 54, 55, 56, 57, 58, 59, 60, 61, 62, 63, 64, 65, 66, 67, 68, 69, 70, 71, 72, 73] (by decide +kernel) (by decide +kernel)) (goodIn_sub (fun _ h => List.mem_cons_of_mem _ (List.mem_append_right _ h)) (by decide +kernel))
set_option maxRecDepth 20000 in
theorem gX2_readKeyword_X2_countMatched : GoodIn wsX2_readKeyword (wsV RX2 75 RX2 yX2_countMatched wsX2_countMatched) := goodIn_app (goodIn_of _ (by decide +kernel)) ggX2_readKeyword_X2_countMatched
set_option maxRecDepth 20000 in
theorem ggX2_readKeyword_J0_length_8abf5 : GoodIn wsX2_readKeyword wsJ0_length_8abf5 := goodIn_r _ [18, 19, 20, 21, 22, 17, 23, 24, 25, 70, 71, 72, 73] (by decide +kernel) (by decide +kernel)
set_option maxRecDepth 20000 in
theorem gX2_readKeyword_J0_length_8abf5 : GoodIn wsX2_readKeyword (wsV RX2 85 RJ0 yJ0_length_8abf5 wsJ0_length_8abf5) := goodIn_app (goodIn_of _ (by decide +kernel)) ggX2_readKeyword_J0_length_8abf5
theorem dX2_readKeyword_0 : decode cX2_readKeyword 0 = .ok (.aload_n 0, 1) := by decide +kernel
theorem dX2_readKeyword_1 : decode cX2_readKeyword 1 = .ok (.getfield 35, 3) := by decide +kernel
theorem dX2_readKeyword_4 : decode cX2_readKeyword 4 = .ok (.istore_n 1, 1) := by decide +kernel
theorem dX2_readKeyword_5 : decode cX2_readKeyword 5 = .ok (.iconst 0, 1) := by decide +kernel
theorem dX2_readKeyword_6 : decode cX2_readKeyword 6 = .ok (.istore_n 2, 1) := by decide +kernel
theorem dX2_readKeyword_7 : decode cX2_readKeyword 7 = .ok (.iload_n 2, 1) := by decide +kernel
theorem dX2_readKeyword_8 : decode cX2_readKeyword 8 = .ok (.getstatic 68, 3) := by decide +kernel
theorem dX2_readKeyword_11 : decode cX2_readKeyword 11 = .ok (.arraylength, 1) := by decide +kernel
theorem dX2_readKeyword_12 : decode cX2_readKeyword 12 = .ok (.if_icmp .ge 55, 3) := by decide +kernel
theorem dX2_readKeyword_15 : decode cX2_readKeyword 15 = .ok (.getstatic 68, 3) := by decide +kernel
theorem dX2_readKeyword_18 : decode cX2_readKeyword 18 = .ok (.iload_n 2, 1) := by decide +kernel
theorem dX2_readKeyword_19 : decode cX2_readKeyword 19 = .ok (.aaload, 1) := by decide +kernel
theorem dX2_readKeyword_20 : decode cX2_readKeyword 20 = .ok (.astore_n 3, 1) := by decide +kernel
theorem dX2_readKeyword_21 : decode cX2_readKeyword 21 = .ok (.aload_n 0, 1) := by decide +kernel
theorem dX2_readKeyword_22 : decode cX2_readKeyword 22 = .ok (.aload_n 3, 1) := by decide +kernel
theorem dX2_readKeyword_23 : decode cX2_readKeyword 23 = .ok (.getfield 71, 3) := by decide +kernel
theorem dX2_readKeyword_26 : decode cX2_readKeyword 26 = .ok (.iload_n 1, 1) := by decide +kernel
theorem dX2_readKeyword_27 : decode cX2_readKeyword 27 = .ok (.invokevirtual 75, 3) := by decide +kernel
theorem dX2_readKeyword_30 : decode cX2_readKeyword 30 = .ok (.istore 4, 2) := by decide +kernel
theorem dX2_readKeyword_32 : decode cX2_readKeyword 32 = .ok (.aload_n 0, 1) := by decide +kernel
theorem dX2_readKeyword_33 : decode cX2_readKeyword 33 = .ok (.aload_n 0, 1) := by decide +kernel
theorem dX2_readKeyword_34 : decode cX2_readKeyword 34 = .ok (.getfield 35, 3) := by decide +kernel
theorem dX2_readKeyword_37 : decode cX2_readKeyword 37 = .ok (.iload_n 1, 1) := by decide +kernel
theorem dX2_readKeyword_38 : decode cX2_readKeyword 38 = .ok (.iload 4, 2) := by decide +kernel
theorem dX2_readKeyword_40 : decode cX2_readKeyword 40 = .ok (.iadd, 1) := by decide +kernel
theorem dX2_readKeyword_41 : decode cX2_readKeyword 41 = .ok (.invokestatic 79, 3) := by decide +kernel
theorem dX2_readKeyword_44 : decode cX2_readKeyword 44 = .ok (.putfield 35, 3) := by decide +kernel
theorem dX2_readKeyword_47 : decode cX2_readKeyword 47 = .ok (.iload 4, 2) := by decide +kernel
theorem dX2_readKeyword_49 : decode cX2_readKeyword 49 = .ok (.aload_n 3, 1) := by decide +kernel
theorem dX2_readKeyword_50 : decode cX2_readKeyword 50 = .ok (.getfield 71, 3) := by decide +kernel
theorem dX2_readKeyword_53 : decode cX2_readKeyword 53 = .ok (.invokevirtual 85, 3) := by decide +kernel
theorem dX2_readKeyword_56 : decode cX2_readKeyword 56 = .ok (.if_icmp .ne 5, 3) := by decide +kernel
theorem dX2_readKeyword_59 : decode cX2_readKeyword 59 = .ok (.aload_n 3, 1) := by decide +kernel
theorem dX2_readKeyword_60 : decode cX2_readKeyword 60 = .ok (.areturn, 1) := by decide +kernel
theorem dX2_readKeyword_61 : decode cX2_readKeyword 61 = .ok (.iinc 2 1, 3) := by decide +kernel
theorem dX2_readKeyword_64 : decode cX2_readKeyword 64 = .ok (.goto (-57), 3) := by decide +kernel
theorem dX2_readKeyword_67 : decode cX2_readKeyword 67 = .ok (.aconst_null, 1) := by decide +kernel
theorem dX2_readKeyword_68 : decode cX2_readKeyword 68 = .ok (.areturn, 1) := by decide +kernel
set_option maxRecDepth 20000 in
theorem ggX2_countMatched_J0_length_8abf5 : GoodIn wsX2_countMatched wsJ0_length_8abf5 := goodIn_r _ [7, 8, 9, 10, 11, 6, 12, 13, 14, 59, 60, 61, 62] (by decide +kernel) (by decide +kernel)
set_option maxRecDepth 20000 in
theorem gX2_countMatched_J0_length_8abf5 : GoodIn wsX2_countMatched (wsV RX2 85 RJ0 yJ0_length_8abf5 wsJ0_length_8abf5) := goodIn_app (goodIn_of _ (by decide +kernel)) ggX2_countMatched_J0_length_8abf5
set_option maxRecDepth 20000 in
theorem ggX2_countMatched_J0_charAt_5068e : GoodIn wsX2_countMatched wsJ0_charAt_5068e := goodIn_r _ [18, 8, 19, 20, 21, 6, 22, 13, 14, 23, 24, 25, 26, 27, 28, 29, 30, 31, 32, 33, 34, 35, 36, 37, 38, 39, 40, 41, 42, 43, 44, 45, 46, 47, 48, 49, 50, 51, 59, 60, 61, 62] (by decide +kernel) (by decide +kernel)
set_option maxRecDepth 20000 in
theorem gX2_countMatched_J0_charAt_5068e : GoodIn wsX2_countMatched (wsV RX2 90 RJ0 yJ0_charAt_5068e wsJ0_charAt_5068e) := goodIn_app (goodIn_of _ (by decide +kernel)) ggX2_countMatched_J0_charAt_5068e
theorem dX2_countMatched_0 : decode cX2_countMatched 0 = .ok (.iconst 0, 1) := by decide +kernel
theorem dX2_countMatched_1 : decode cX2_countMatched 1 = .ok (.istore_n 3, 1) := by decide +kernel
theorem dX2_countMatched_2 : decode cX2_countMatched 2 = .ok (.iconst 0, 1) := by decide +kernel
theorem dX2_countMatched_3 : decode cX2_countMatched 3 = .ok (.istore 4, 2) := by decide +kernel
theorem dX2_countMatched_5 : decode cX2_countMatched 5 = .ok (.iload 4, 2) := by decide +kernel
theorem dX2_countMatched_7 : decode cX2_countMatched 7 = .ok (.aload_n 1, 1) := by decide +kernel
theorem dX2_countMatched_8 : decode cX2_countMatched 8 = .ok (.invokevirtual 85, 3) := by decide +kernel
theorem dX2_countMatched_11 : decode cX2_countMatched 11 = .ok (.if_icmp .ge 45, 3) := by decide +kernel
theorem dX2_countMatched_14 : decode cX2_countMatched 14 = .ok (.iload_n 2, 1) := by decide +kernel
theorem dX2_countMatched_15 : decode cX2_countMatched 15 = .ok (.iload 4, 2) := by decide +kernel
theorem dX2_countMatched_17 : decode cX2_countMatched 17 = .ok (.iadd, 1) := by decide +kernel
theorem dX2_countMatched_18 : decode cX2_countMatched 18 = .ok (.istore 5, 2) := by decide +kernel
theorem dX2_countMatched_20 : decode cX2_countMatched 20 = .ok (.iload 5, 2) := by decide +kernel
theorem dX2_countMatched_22 : decode cX2_countMatched 22 = .ok (.aload_n 0, 1) := by decide +kernel
theorem dX2_countMatched_23 : decode cX2_countMatched 23 = .ok (.getfield 15, 3) := by decide +kernel
theorem dX2_countMatched_26 : decode cX2_countMatched 26 = .ok (.if_icmp .ge 19, 3) := by decide +kernel
theorem dX2_countMatched_29 : decode cX2_countMatched 29 = .ok (.aload_n 0, 1) := by decide +kernel
theorem dX2_countMatched_30 : decode cX2_countMatched 30 = .ok (.getfield 9, 3) := by decide +kernel
theorem dX2_countMatched_33 : decode cX2_countMatched 33 = .ok (.iload 5, 2) := by decide +kernel
theorem dX2_countMatched_35 : decode cX2_countMatched 35 = .ok (.caload, 1) := by decide +kernel
theorem dX2_countMatched_36 : decode cX2_countMatched 36 = .ok (.aload_n 1, 1) := by decide +kernel
theorem dX2_countMatched_37 : decode cX2_countMatched 37 = .ok (.iload 4, 2) := by decide +kernel
theorem dX2_countMatched_39 : decode cX2_countMatched 39 = .ok (.invokevirtual 90, 3) := by decide +kernel
theorem dX2_countMatched_42 : decode cX2_countMatched 42 = .ok (.if_icmp .eq 5, 3) := by decide +kernel
theorem dX2_countMatched_45 : decode cX2_countMatched 45 = .ok (.iload_n 3, 1) := by decide +kernel
theorem dX2_countMatched_46 : decode cX2_countMatched 46 = .ok (.ireturn, 1) := by decide +kernel
theorem dX2_countMatched_47 : decode cX2_countMatched 47 = .ok (.iinc 3 1, 3) := by decide +kernel
theorem dX2_countMatched_50 : decode cX2_countMatched 50 = .ok (.iinc 4 1, 3) := by decide +kernel
theorem dX2_countMatched_53 : decode cX2_countMatched 53 = .ok (.goto (-48), 3) := by decide +kernel
theorem dX2_countMatched_56 : decode cX2_countMatched 56 = .ok (.iload_n 3, 1) := by decide +kernel
theorem dX2_countMatched_57 : decode cX2_countMatched 57 = .ok (.ireturn, 1) := by decide +kernel
set_option maxRecDepth 20000 in
theorem ggX2_readNumber_X2_standsOnDigit : GoodIn wsX2_readNumber wsX2_standsOnDigit := goodIn_ca (goodIn_r _ [7, 2, 8, 1, 9, 10, 11, 12, 13, 14, 15] (by decide +kernel) (by decide +kernel)) (goodIn_sub (fun _ h => List.mem_cons_of_mem _ (List.mem_append_right _ h)) (by decide +kernel))
set_option maxRecDepth 20000 in
theorem gX2_readNumber_X2_standsOnDigit : GoodIn wsX2_readNumber (wsV RX2 94 RX2 yX2_standsOnDigit wsX2_standsOnDigit) := goodIn_app (goodIn_of _ (by decide +kernel)) ggX2_readNumber_X2_standsOnDigit
theorem dX2_readNumber_0 : decode cX2_readNumber 0 = .ok (.iconst (-1), 1) := by decide +kernel
theorem dX2_readNumber_1 : decode cX2_readNumber 1 = .ok (.istore_n 2, 1) := by decide +kernel
theorem dX2_readNumber_2 : decode cX2_readNumber 2 = .ok (.iconst 0, 1) := by decide +kernel
theorem dX2_readNumber_3 : decode cX2_readNumber 3 = .ok (.istore_n 3, 1) := by decide +kernel
theorem dX2_readNumber_4 : decode cX2_readNumber 4 = .ok (.iload_n 3, 1) := by decide +kernel
theorem dX2_readNumber_5 : decode cX2_readNumber 5 = .ok (.iload_n 1, 1) := by decide +kernel
theorem dX2_readNumber_6 : decode cX2_readNumber 6 = .ok (.if_icmp .ge 52, 3) := by decide +kernel
theorem dX2_readNumber_9 : decode cX2_readNumber 9 = .ok (.aload_n 0, 1) := by decide +kernel
theorem dX2_readNumber_10 : decode cX2_readNumber 10 = .ok (.invokevirtual 94, 3) := by decide +kernel
theorem dX2_readNumber_13 : decode cX2_readNumber 13 = .ok (.ifCond .eq 45, 3) := by decide +kernel
theorem dX2_readNumber_16 : decode cX2_readNumber 16 = .ok (.iload_n 3, 1) := by decide +kernel
theorem dX2_readNumber_17 : decode cX2_readNumber 17 = .ok (.ifCond .ne 7, 3) := by decide +kernel
theorem dX2_readNumber_20 : decode cX2_readNumber 20 = .ok (.iconst 0, 1) := by decide +kernel
theorem dX2_readNumber_21 : decode cX2_readNumber 21 = .ok (.goto 7, 3) := by decide +kernel
theorem dX2_readNumber_24 : decode cX2_readNumber 24 = .ok (.iload_n 2, 1) := by decide +kernel
theorem dX2_readNumber_25 : decode cX2_readNumber 25 = .ok (.bipush 10, 2) := by decide +kernel
theorem dX2_readNumber_27 : decode cX2_readNumber 27 = .ok (.imul, 1) := by decide +kernel
theorem dX2_readNumber_28 : decode cX2_readNumber 28 = .ok (.aload_n 0, 1) := by decide +kernel
theorem dX2_readNumber_29 : decode cX2_readNumber 29 = .ok (.getfield 9, 3) := by decide +kernel
theorem dX2_readNumber_32 : decode cX2_readNumber 32 = .ok (.aload_n 0, 1) := by decide +kernel
theorem dX2_readNumber_33 : decode cX2_readNumber 33 = .ok (.getfield 35, 3) := by decide +kernel
theorem dX2_readNumber_36 : decode cX2_readNumber 36 = .ok (.caload, 1) := by decide +kernel
theorem dX2_readNumber_37 : decode cX2_readNumber 37 = .ok (.bipush 48, 2) := by decide +kernel
theorem dX2_readNumber_39 : decode cX2_readNumber 39 = .ok (.isub, 1) := by decide +kernel
theorem dX2_readNumber_40 : decode cX2_readNumber 40 = .ok (.iadd, 1) := by decide +kernel
theorem dX2_readNumber_41 : decode cX2_readNumber 41 = .ok (.istore_n 2, 1) := by decide +kernel
theorem dX2_readNumber_42 : decode cX2_readNumber 42 = .ok (.aload_n 0, 1) := by decide +kernel
theorem dX2_readNumber_43 : decode cX2_readNumber 43 = .ok (.dup, 1) := by decide +kernel
theorem dX2_readNumber_44 : decode cX2_readNumber 44 = .ok (.getfield 35, 3) := by decide +kernel
theorem dX2_readNumber_47 : decode cX2_readNumber 47 = .ok (.iconst 1, 1) := by decide +kernel
theorem dX2_readNumber_48 : decode cX2_readNumber 48 = .ok (.iadd, 1) := by decide +kernel
theorem dX2_readNumber_49 : decode cX2_readNumber 49 = .ok (.putfield 35, 3) := by decide +kernel
theorem dX2_readNumber_52 : decode cX2_readNumber 52 = .ok (.iinc 3 1, 3) := by decide +kernel
theorem dX2_readNumber_55 : decode cX2_readNumber 55 = .ok (.goto (-51), 3) := by decide +kernel
theorem dX2_readNumber_58 : decode cX2_readNumber 58 = .ok (.iload_n 2, 1) := by decide +kernel
theorem dX2_readNumber_59 : decode cX2_readNumber 59 = .ok (.ireturn, 1) := by decide +kernel
theorem dX2_standsOnDigit_0 : decode cX2_standsOnDigit 0 = .ok (.aload_n 0, 1) := by decide +kernel
theorem dX2_standsOnDigit_1 : decode cX2_standsOnDigit 1 = .ok (.getfield 35, 3) := by decide +kernel
theorem dX2_standsOnDigit_4 : decode cX2_standsOnDigit 4 = .ok (.aload_n 0, 1) := by decide +kernel
theorem dX2_standsOnDigit_5 : decode cX2_standsOnDigit 5 = .ok (.getfield 15, 3) := by decide +kernel
theorem dX2_standsOnDigit_8 : decode cX2_standsOnDigit 8 = .ok (.if_icmp .ge 35, 3) := by decide +kernel
theorem dX2_standsOnDigit_11 : decode cX2_standsOnDigit 11 = .ok (.aload_n 0, 1) := by decide +kernel
theorem dX2_standsOnDigit_12 : decode cX2_standsOnDigit 12 = .ok (.getfield 9, 3) := by decide +kernel
theorem dX2_standsOnDigit_15 : decode cX2_standsOnDigit 15 = .ok (.aload_n 0, 1) := by decide +kernel
theorem dX2_standsOnDigit_16 : decode cX2_standsOnDigit 16 = .ok (.getfield 35, 3) := by decide +kernel
theorem dX2_standsOnDigit_19 : decode cX2_standsOnDigit 19 = .ok (.caload, 1) := by decide +kernel
theorem dX2_standsOnDigit_20 : decode cX2_standsOnDigit 20 = .ok (.bipush 48, 2) := by decide +kernel
theorem dX2_standsOnDigit_22 : decode cX2_standsOnDigit 22 = .ok (.if_icmp .lt 21, 3) := by decide +kernel
theorem dX2_standsOnDigit_25 : decode cX2_standsOnDigit 25 = .ok (.aload_n 0, 1) := by decide +kernel
theorem dX2_standsOnDigit_26 : decode cX2_standsOnDigit 26 = .ok (.getfield 9, 3) := by decide +kernel
theorem dX2_standsOnDigit_29 : decode cX2_standsOnDigit 29 = .ok (.aload_n 0, 1) := by decide +kernel
theorem dX2_standsOnDigit_30 : decode cX2_standsOnDigit 30 = .ok (.getfield 35, 3) := by decide +kernel
theorem dX2_standsOnDigit_33 : decode cX2_standsOnDigit 33 = .ok (.caload, 1) := by decide +kernel
theorem dX2_standsOnDigit_34 : decode cX2_standsOnDigit 34 = .ok (.bipush 57, 2) := by decide +kernel
theorem dX2_standsOnDigit_36 : decode cX2_standsOnDigit 36 = .ok (.if_icmp .gt 7, 3) := by decide +kernel
theorem dX2_standsOnDigit_39 : decode cX2_standsOnDigit 39 = .ok (.iconst 1, 1) := by decide +kernel
theorem dX2_standsOnDigit_40 : decode cX2_standsOnDigit 40 = .ok (.goto 4, 3) := by decide +kernel
theorem dX2_standsOnDigit_43 : decode cX2_standsOnDigit 43 = .ok (.iconst 0, 1) := by decide +kernel
theorem dX2_standsOnDigit_44 : decode cX2_standsOnDigit 44 = .ok (.ireturn, 1) := by decide +kernel
theorem dX2_readSign_0 : decode cX2_readSign 0 = .ok (.aload_n 0, 1) := by decide +kernel
theorem dX2_readSign_1 : decode cX2_readSign 1 = .ok (.getfield 35, 3) := by decide +kernel
theorem dX2_readSign_4 : decode cX2_readSign 4 = .ok (.aload_n 0, 1) := by decide +kernel
theorem dX2_readSign_5 : decode cX2_readSign 5 = .ok (.getfield 15, 3) := by decide +kernel
theorem dX2_readSign_8 : decode cX2_readSign 8 = .ok (.if_icmp .ge 16, 3) := by decide +kernel
theorem dX2_readSign_11 : decode cX2_readSign 11 = .ok (.aload_n 0, 1) := by decide +kernel
theorem dX2_readSign_12 : decode cX2_readSign 12 = .ok (.getfield 9, 3) := by decide +kernel
theorem dX2_readSign_15 : decode cX2_readSign 15 = .ok (.aload_n 0, 1) := by decide +kernel
theorem dX2_readSign_16 : decode cX2_readSign 16 = .ok (.getfield 35, 3) := by decide +kernel
theorem dX2_readSign_19 : decode cX2_readSign 19 = .ok (.caload, 1) := by decide +kernel
theorem dX2_readSign_20 : decode cX2_readSign 20 = .ok (.iload_n 1, 1) := by decide +kernel
theorem dX2_readSign_21 : decode cX2_readSign 21 = .ok (.if_icmp .eq 5, 3) := by decide +kernel
theorem dX2_readSign_24 : decode cX2_readSign 24 = .ok (.iconst 0, 1) := by decide +kernel
theorem dX2_readSign_25 : decode cX2_readSign 25 = .ok (.ireturn, 1) := by decide +kernel
theorem dX2_readSign_26 : decode cX2_readSign 26 = .ok (.aload_n 0, 1) := by decide +kernel
theorem dX2_readSign_27 : decode cX2_readSign 27 = .ok (.dup, 1) := by decide +kernel
theorem dX2_readSign_28 : decode cX2_readSign 28 = .ok (.getfield 35, 3) := by decide +kernel
theorem dX2_readSign_31 : decode cX2_readSign 31 = .ok (.iconst 1, 1) := by decide +kernel
theorem dX2_readSign_32 : decode cX2_readSign 32 = .ok (.iadd, 1) := by decide +kernel
theorem dX2_readSign_33 : decode cX2_readSign 33 = .ok (.putfield 35, 3) := by decide +kernel
theorem dX2_readSign_36 : decode cX2_readSign 36 = .ok (.iconst 1, 1) := by decide +kernel
theorem dX2_readSign_37 : decode cX2_readSign 37 = .ok (.ireturn, 1) := by decide +kernel
theorem dX3_init_0 : decode cX3_init 0 = .ok (.aload_n 0, 1) := by decide +kernel
theorem dX3_init_1 : decode cX3_init 1 = .ok (.invokespecial 3, 3) := by decide +kernel
theorem dX3_init_4 : decode cX3_init 4 = .ok (.aload_n 0, 1) := by decide +kernel
theorem dX3_init_5 : decode cX3_init 5 = .ok (.bipush 8, 2) := by decide +kernel
theorem dX3_init_7 : decode cX3_init 7 = .ok (.newarray .int, 2) := by decide +kernel
theorem dX3_init_9 : decode cX3_init 9 = .ok (.putfield 9, 3) := by decide +kernel
theorem dX3_init_12 : decode cX3_init 12 = .ok (.aload_n 0, 1) := by decide +kernel
theorem dX3_init_13 : decode cX3_init 13 = .ok (.bipush 8, 2) := by decide +kernel
theorem dX3_init_15 : decode cX3_init 15 = .ok (.newarray .int, 2) := by decide +kernel
theorem dX3_init_17 : decode cX3_init 17 = .ok (.putfield 15, 3) := by decide +kernel
theorem dX3_init_20 : decode cX3_init 20 = .ok (.aload_n 0, 1) := by decide +kernel
theorem dX3_init_21 : decode cX3_init 21 = .ok (.bipush 8, 2) := by decide +kernel
theorem dX3_init_23 : decode cX3_init 23 = .ok (.newarray .int, 2) := by decide +kernel
theorem dX3_init_25 : decode cX3_init 25 = .ok (.putfield 18, 3) := by decide +kernel
theorem dX3_init_28 : decode cX3_init 28 = .ok (.aload_n 0, 1) := by decide +kernel
theorem dX3_init_29 : decode cX3_init 29 = .ok (.bipush 8, 2) := by decide +kernel
theorem dX3_init_31 : decode cX3_init 31 = .ok (.newarray .int, 2) := by decide +kernel
theorem dX3_init_33 : decode cX3_init 33 = .ok (.putfield 21, 3) := by decide +kernel
theorem dX3_init_36 : decode cX3_init 36 = .ok (.aload_n 0, 1) := by decide +kernel
theorem dX3_init_37 : decode cX3_init 37 = .ok (.bipush 8, 2) := by decide +kernel
theorem dX3_init_39 : decode cX3_init 39 = .ok (.newarray .long, 2) := by decide +kernel
theorem dX3_init_41 : decode cX3_init 41 = .ok (.putfield 24, 3) := by decide +kernel
theorem dX3_init_44 : decode cX3_init 44 = .ok (.aload_n 0, 1) := by decide +kernel
theorem dX3_init_45 : decode cX3_init 45 = .ok (.bipush 8, 2) := by decide +kernel
theorem dX3_init_47 : decode cX3_init 47 = .ok (.newarray .int, 2) := by decide +kernel
theorem dX3_init_49 : decode cX3_init 49 = .ok (.putfield 28, 3) := by decide +kernel
theorem dX3_init_52 : decode cX3_init 52 = .ok (.aload_n 0, 1) := by decide +kernel
theorem dX3_init_53 : decode cX3_init 53 = .ok (.bipush 8, 2) := by decide +kernel
theorem dX3_init_55 : decode cX3_init 55 = .ok (.newarray .int, 2) := by decide +kernel
theorem dX3_init_57 : decode cX3_init 57 = .ok (.putfield 31, 3) := by decide +kernel
theorem dX3_init_60 : decode cX3_init 60 = .ok (.aload_n 0, 1) := by decide +kernel
theorem dX3_init_61 : decode cX3_init 61 = .ok (.bipush 8, 2) := by decide +kernel
theorem dX3_init_63 : decode cX3_init 63 = .ok (.newarray .int, 2) := by decide +kernel
theorem dX3_init_65 : decode cX3_init 65 = .ok (.putfield 34, 3) := by decide +kernel
theorem dX3_init_68 : decode cX3_init 68 = .ok (.aload_n 0, 1) := by decide +kernel
theorem dX3_init_69 : decode cX3_init 69 = .ok (.iconst 0, 1) := by decide +kernel
theorem dX3_init_70 : decode cX3_init 70 = .ok (.putfield 37, 3) := by decide +kernel
theorem dX3_init_73 : decode cX3_init 73 = .ok (.aload_n 0, 1) := by decide +kernel
theorem dX3_init_74 : decode cX3_init 74 = .ok (.iconst 0, 1) := by decide +kernel
theorem dX3_init_75 : decode cX3_init 75 = .ok (.putfield 41, 3) := by decide +kernel
theorem dX3_init_78 : decode cX3_init 78 = .ok (.aload_n 0, 1) := by decide +kernel
theorem dX3_init_79 : decode cX3_init 79 = .ok (.iconst 0, 1) := by decide +kernel
theorem dX3_init_80 : decode cX3_init 80 = .ok (.putfield 44, 3) := by decide +kernel
theorem dX3_init_83 : decode cX3_init 83 = .ok (.aload_n 0, 1) := by decide +kernel
theorem dX3_init_84 : decode cX3_init 84 = .ok (.iconst 0, 1) := by decide +kernel
theorem dX3_init_85 : decode cX3_init 85 = .ok (.putfield 47, 3) := by decide +kernel
theorem dX3_init_88 : decode cX3_init 88 = .ok (.aload_n 0, 1) := by decide +kernel
theorem dX3_init_89 : decode cX3_init 89 = .ok (.iconst 0, 1) := by decide +kernel
theorem dX3_init_90 : decode cX3_init 90 = .ok (.putfield 50, 3) := by decide +kernel
theorem dX3_init_93 : decode cX3_init 93 = .ok (.aload_n 0, 1) := by decide +kernel
theorem dX3_init_94 : decode cX3_init 94 = .ok (.iconst 0, 1) := by decide +kernel
theorem dX3_init_95 : decode cX3_init 95 = .ok (.putfield 53, 3) := by decide +kernel
theorem dX3_init_98 : decode cX3_init 98 = .ok (.aload_n 0, 1) := by decide +kernel
theorem dX3_init_99 : decode cX3_init 99 = .ok (.iconst 0, 1) := by decide +kernel
theorem dX3_init_100 : decode cX3_init 100 = .ok (.putfield 56, 3) := by decide +kernel
theorem dX3_init_103 : decode cX3_init 103 = .ok (.iconst 0, 1) := by decide +kernel
theorem dX3_init_104 : decode cX3_init 104 = .ok (.istore_n 1, 1) := by decide +kernel
theorem dX3_init_105 : decode cX3_init 105 = .ok (.iload_n 1, 1) := by decide +kernel
theorem dX3_init_106 : decode cX3_init 106 = .ok (.bipush 8, 2) := by decide +kernel
theorem dX3_init_108 : decode cX3_init 108 = .ok (.if_icmp .ge 23, 3) := by decide +kernel
theorem dX3_init_111 : decode cX3_init 111 = .ok (.aload_n 0, 1) := by decide +kernel
theorem dX3_init_112 : decode cX3_init 112 = .ok (.getfield 18, 3) := by decide +kernel
theorem dX3_init_115 : decode cX3_init 115 = .ok (.iload_n 1, 1) := by decide +kernel
theorem dX3_init_116 : decode cX3_init 116 = .ok (.iconst (-1), 1) := by decide +kernel
theorem dX3_init_117 : decode cX3_init 117 = .ok (.iastore, 1) := by decide +kernel
theorem dX3_init_118 : decode cX3_init 118 = .ok (.aload_n 0, 1) := by decide +kernel
theorem dX3_init_119 : decode cX3_init 119 = .ok (.getfield 28, 3) := by decide +kernel
theorem dX3_init_122 : decode cX3_init 122 = .ok (.iload_n 1, 1) := by decide +kernel
theorem dX3_init_123 : decode cX3_init 123 = .ok (.iconst (-1), 1) := by decide +kernel
theorem dX3_init_124 : decode cX3_init 124 = .ok (.iastore, 1) := by decide +kernel
theorem dX3_init_125 : decode cX3_init 125 = .ok (.iinc 1 1, 3) := by decide +kernel
theorem dX3_init_128 : decode cX3_init 128 = .ok (.goto (-23), 3) := by decide +kernel
theorem dX3_init_131 : decode cX3_init 131 = .ok (.return_, 1) := by decide +kernel
theorem dX3_become_0 : decode cX3_become 0 = .ok (.aload_n 1, 1) := by decide +kernel
theorem dX3_become_1 : decode cX3_become 1 = .ok (.getfield 9, 3) := by decide +kernel
theorem dX3_become_4 : decode cX3_become 4 = .ok (.iconst 0, 1) := by decide +kernel
theorem dX3_become_5 : decode cX3_become 5 = .ok (.aload_n 0, 1) := by decide +kernel
theorem dX3_become_6 : decode cX3_become 6 = .ok (.getfield 9, 3) := by decide +kernel
theorem dX3_become_9 : decode cX3_become 9 = .ok (.iconst 0, 1) := by decide +kernel
theorem dX3_become_10 : decode cX3_become 10 = .ok (.bipush 8, 2) := by decide +kernel
theorem dX3_become_12 : decode cX3_become 12 = .ok (.invokestatic 59, 3) := by decide +kernel
theorem dX3_become_15 : decode cX3_become 15 = .ok (.aload_n 1, 1) := by decide +kernel
theorem dX3_become_16 : decode cX3_become 16 = .ok (.getfield 15, 3) := by decide +kernel
theorem dX3_become_19 : decode cX3_become 19 = .ok (.iconst 0, 1) := by decide +kernel
theorem dX3_become_20 : decode cX3_become 20 = .ok (.aload_n 0, 1) := by decide +kernel
theorem dX3_become_21 : decode cX3_become 21 = .ok (.getfield 15, 3) := by decide +kernel
theorem dX3_become_24 : decode cX3_become 24 = .ok (.iconst 0, 1) := by decide +kernel
theorem dX3_become_25 : decode cX3_become 25 = .ok (.bipush 8, 2) := by decide +kernel
theorem dX3_become_27 : decode cX3_become 27 = .ok (.invokestatic 59, 3) := by decide +kernel
theorem dX3_become_30 : decode cX3_become 30 = .ok (.aload_n 1, 1) := by decide +kernel
theorem dX3_become_31 : decode cX3_become 31 = .ok (.getfield 18, 3) := by decide +kernel
theorem dX3_become_34 : decode cX3_become 34 = .ok (.iconst 0, 1) := by decide +kernel
theorem dX3_become_35 : decode cX3_become 35 = .ok (.aload_n 0, 1) := by decide +kernel
theorem dX3_become_36 : decode cX3_become 36 = .ok (.getfield 18, 3) := by decide +kernel
theorem dX3_become_39 : decode cX3_become 39 = .ok (.iconst 0, 1) := by decide +kernel
theorem dX3_become_40 : decode cX3_become 40 = .ok (.bipush 8, 2) := by decide +kernel
theorem dX3_become_42 : decode cX3_become 42 = .ok (.invokestatic 59, 3) := by decide +kernel
theorem dX3_become_45 : decode cX3_become 45 = .ok (.aload_n 1, 1) := by decide +kernel
theorem dX3_become_46 : decode cX3_become 46 = .ok (.getfield 21, 3) := by decide +kernel
theorem dX3_become_49 : decode cX3_become 49 = .ok (.iconst 0, 1) := by decide +kernel
theorem dX3_become_50 : decode cX3_become 50 = .ok (.aload_n 0, 1) := by decide +kernel
theorem dX3_become_51 : decode cX3_become 51 = .ok (.getfield 21, 3) := by decide +kernel
theorem dX3_become_54 : decode cX3_become 54 = .ok (.iconst 0, 1) := by decide +kernel
theorem dX3_become_55 : decode cX3_become 55 = .ok (.bipush 8, 2) := by decide +kernel
theorem dX3_become_57 : decode cX3_become 57 = .ok (.invokestatic 59, 3) := by decide +kernel
theorem dX3_become_60 : decode cX3_become 60 = .ok (.aload_n 1, 1) := by decide +kernel
theorem dX3_become_61 : decode cX3_become 61 = .ok (.getfield 24, 3) := by decide +kernel
theorem dX3_become_64 : decode cX3_become 64 = .ok (.iconst 0, 1) := by decide +kernel
theorem dX3_become_65 : decode cX3_become 65 = .ok (.aload_n 0, 1) := by decide +kernel
theorem dX3_become_66 : decode cX3_become 66 = .ok (.getfield 24, 3) := by decide +kernel
theorem dX3_become_69 : decode cX3_become 69 = .ok (.iconst 0, 1) := by decide +kernel
theorem dX3_become_70 : decode cX3_become 70 = .ok (.bipush 8, 2) := by decide +kernel
theorem dX3_become_72 : decode cX3_become 72 = .ok (.invokestatic 59, 3) := by decide +kernel
theorem dX3_become_75 : decode cX3_become 75 = .ok (.aload_n 1, 1) := by decide +kernel
theorem dX3_become_76 : decode cX3_become 76 = .ok (.getfield 28, 3) := by decide +kernel
theorem dX3_become_79 : decode cX3_become 79 = .ok (.iconst 0, 1) := by decide +kernel
theorem dX3_become_80 : decode cX3_become 80 = .ok (.aload_n 0, 1) := by decide +kernel
theorem dX3_become_81 : decode cX3_become 81 = .ok (.getfield 28, 3) := by decide +kernel
theorem dX3_become_84 : decode cX3_become 84 = .ok (.iconst 0, 1) := by decide +kernel
theorem dX3_become_85 : decode cX3_become 85 = .ok (.bipush 8, 2) := by decide +kernel
theorem dX3_become_87 : decode cX3_become 87 = .ok (.invokestatic 59, 3) := by decide +kernel
theorem dX3_become_90 : decode cX3_become 90 = .ok (.aload_n 1, 1) := by decide +kernel
theorem dX3_become_91 : decode cX3_become 91 = .ok (.getfield 31, 3) := by decide +kernel
theorem dX3_become_94 : decode cX3_become 94 = .ok (.iconst 0, 1) := by decide +kernel
theorem dX3_become_95 : decode cX3_become 95 = .ok (.aload_n 0, 1) := by decide +kernel
theorem dX3_become_96 : decode cX3_become 96 = .ok (.getfield 31, 3) := by decide +kernel
theorem dX3_become_99 : decode cX3_become 99 = .ok (.iconst 0, 1) := by decide +kernel
theorem dX3_become_100 : decode cX3_become 100 = .ok (.bipush 8, 2) := by decide +kernel
theorem dX3_become_102 : decode cX3_become 102 = .ok (.invokestatic 59, 3) := by decide +kernel
theorem dX3_become_105 : decode cX3_become 105 = .ok (.aload_n 1, 1) := by decide +kernel
theorem dX3_become_106 : decode cX3_become 106 = .ok (.getfield 34, 3) := by decide +kernel
theorem dX3_become_109 : decode cX3_become 109 = .ok (.iconst 0, 1) := by decide +kernel
theorem dX3_become_110 : decode cX3_become 110 = .ok (.aload_n 0, 1) := by decide +kernel
theorem dX3_become_111 : decode cX3_become 111 = .ok (.getfield 34, 3) := by decide +kernel
theorem dX3_become_114 : decode cX3_become 114 = .ok (.iconst 0, 1) := by decide +kernel
theorem dX3_become_115 : decode cX3_become 115 = .ok (.bipush 8, 2) := by decide +kernel
theorem dX3_become_117 : decode cX3_become 117 = .ok (.invokestatic 59, 3) := by decide +kernel
theorem dX3_become_120 : decode cX3_become 120 = .ok (.aload_n 0, 1) := by decide +kernel
theorem dX3_become_121 : decode cX3_become 121 = .ok (.aload_n 1, 1) := by decide +kernel
theorem dX3_become_122 : decode cX3_become 122 = .ok (.getfield 37, 3) := by decide +kernel
theorem dX3_become_125 : decode cX3_become 125 = .ok (.putfield 37, 3) := by decide +kernel
theorem dX3_become_128 : decode cX3_become 128 = .ok (.aload_n 0, 1) := by decide +kernel
theorem dX3_become_129 : decode cX3_become 129 = .ok (.aload_n 1, 1) := by decide +kernel
theorem dX3_become_130 : decode cX3_become 130 = .ok (.getfield 41, 3) := by decide +kernel
theorem dX3_become_133 : decode cX3_become 133 = .ok (.putfield 41, 3) := by decide +kernel
theorem dX3_become_136 : decode cX3_become 136 = .ok (.aload_n 0, 1) := by decide +kernel
theorem dX3_become_137 : decode cX3_become 137 = .ok (.aload_n 1, 1) := by decide +kernel
theorem dX3_become_138 : decode cX3_become 138 = .ok (.getfield 44, 3) := by decide +kernel
theorem dX3_become_141 : decode cX3_become 141 = .ok (.putfield 44, 3) := by decide +kernel
theorem dX3_become_144 : decode cX3_become 144 = .ok (.aload_n 0, 1) := by decide +kernel
theorem dX3_become_145 : decode cX3_become 145 = .ok (.aload_n 1, 1) := by decide +kernel
theorem dX3_become_146 : decode cX3_become 146 = .ok (.getfield 47, 3) := by decide +kernel
theorem dX3_become_149 : decode cX3_become 149 = .ok (.putfield 47, 3) := by decide +kernel
theorem dX3_become_152 : decode cX3_become 152 = .ok (.aload_n 0, 1) := by decide +kernel
theorem dX3_become_153 : decode cX3_become 153 = .ok (.aload_n 1, 1) := by decide +kernel
theorem dX3_become_154 : decode cX3_become 154 = .ok (.getfield 50, 3) := by decide +kernel
theorem dX3_become_157 : decode cX3_become 157 = .ok (.putfield 50, 3) := by decide +kernel
theorem dX3_become_160 : decode cX3_become 160 = .ok (.aload_n 0, 1) := by decide +kernel
theorem dX3_become_161 : decode cX3_become 161 = .ok (.aload_n 1, 1) := by decide +kernel
theorem dX3_become_162 : decode cX3_become 162 = .ok (.getfield 53, 3) := by decide +kernel
theorem dX3_become_165 : decode cX3_become 165 = .ok (.putfield 53, 3) := by decide +kernel
theorem dX3_become_168 : decode cX3_become 168 = .ok (.aload_n 0, 1) := by decide +kernel
theorem dX3_become_169 : decode cX3_become 169 = .ok (.aload_n 1, 1) := by decide +kernel
theorem dX3_become_170 : decode cX3_become 170 = .ok (.getfield 56, 3) := by decide +kernel
theorem dX3_become_173 : decode cX3_become 173 = .ok (.putfield 56, 3) := by decide +kernel
theorem dX3_become_176 : decode cX3_become 176 = .ok (.return_, 1) := by decide +kernel
theorem dX3_hasGuest_0 : decode cX3_hasGuest 0 = .ok (.iload_n 1, 1) := by decide +kernel
theorem dX3_hasGuest_1 : decode cX3_hasGuest 1 = .ok (.ifCond .lt 15, 3) := by decide +kernel
theorem dX3_hasGuest_4 : decode cX3_hasGuest 4 = .ok (.iload_n 1, 1) := by decide +kernel
theorem dX3_hasGuest_5 : decode cX3_hasGuest 5 = .ok (.aload_n 0, 1) := by decide +kernel
theorem dX3_hasGuest_6 : decode cX3_hasGuest 6 = .ok (.getfield 41, 3) := by decide +kernel
theorem dX3_hasGuest_9 : decode cX3_hasGuest 9 = .ok (.if_icmp .ge 7, 3) := by decide +kernel
theorem dX3_hasGuest_12 : decode cX3_hasGuest 12 = .ok (.iconst 1, 1) := by decide +kernel
theorem dX3_hasGuest_13 : decode cX3_hasGuest 13 = .ok (.goto 4, 3) := by decide +kernel
theorem dX3_hasGuest_16 : decode cX3_hasGuest 16 = .ok (.iconst 0, 1) := by decide +kernel
theorem dX3_hasGuest_17 : decode cX3_hasGuest 17 = .ok (.ireturn, 1) := by decide +kernel
theorem dX3_hasChair_0 : decode cX3_hasChair 0 = .ok (.iload_n 0, 1) := by decide +kernel
theorem dX3_hasChair_1 : decode cX3_hasChair 1 = .ok (.ifCond .lt 13, 3) := by decide +kernel
theorem dX3_hasChair_4 : decode cX3_hasChair 4 = .ok (.iload_n 0, 1) := by decide +kernel
theorem dX3_hasChair_5 : decode cX3_hasChair 5 = .ok (.bipush 40, 2) := by decide +kernel
theorem dX3_hasChair_7 : decode cX3_hasChair 7 = .ok (.if_icmp .ge 7, 3) := by decide +kernel
theorem dX3_hasChair_10 : decode cX3_hasChair 10 = .ok (.iconst 1, 1) := by decide +kernel
theorem dX3_hasChair_11 : decode cX3_hasChair 11 = .ok (.goto 4, 3) := by decide +kernel
theorem dX3_hasChair_14 : decode cX3_hasChair 14 = .ok (.iconst 0, 1) := by decide +kernel
theorem dX3_hasChair_15 : decode cX3_hasChair 15 = .ok (.ireturn, 1) := by decide +kernel
theorem dX3_refusalOfGuest_0 : decode cX3_refusalOfGuest 0 = .ok (.iload_n 1, 1) := by decide +kernel
theorem dX3_refusalOfGuest_1 : decode cX3_refusalOfGuest 1 = .ok (.ifCond .lt 18, 3) := by decide +kernel
theorem dX3_refusalOfGuest_4 : decode cX3_refusalOfGuest 4 = .ok (.iload_n 1, 1) := by decide +kernel
theorem dX3_refusalOfGuest_5 : decode cX3_refusalOfGuest 5 = .ok (.bipush 9, 2) := by decide +kernel
theorem dX3_refusalOfGuest_7 : decode cX3_refusalOfGuest 7 = .ok (.if_icmp .gt 12, 3) := by decide +kernel
theorem dX3_refusalOfGuest_10 : decode cX3_refusalOfGuest 10 = .ok (.iload_n 2, 1) := by decide +kernel
theorem dX3_refusalOfGuest_11 : decode cX3_refusalOfGuest 11 = .ok (.ifCond .lt 8, 3) := by decide +kernel
theorem dX3_refusalOfGuest_14 : decode cX3_refusalOfGuest 14 = .ok (.iload_n 2, 1) := by decide +kernel
theorem dX3_refusalOfGuest_15 : decode cX3_refusalOfGuest 15 = .ok (.iconst 2, 1) := by decide +kernel
theorem dX3_refusalOfGuest_16 : decode cX3_refusalOfGuest 16 = .ok (.if_icmp .le 5, 3) := by decide +kernel
theorem dX3_refusalOfGuest_19 : decode cX3_refusalOfGuest 19 = .ok (.iconst 1, 1) := by decide +kernel
theorem dX3_refusalOfGuest_20 : decode cX3_refusalOfGuest 20 = .ok (.ireturn, 1) := by decide +kernel
theorem dX3_refusalOfGuest_21 : decode cX3_refusalOfGuest 21 = .ok (.aload_n 0, 1) := by decide +kernel
theorem dX3_refusalOfGuest_22 : decode cX3_refusalOfGuest 22 = .ok (.getfield 41, 3) := by decide +kernel
theorem dX3_refusalOfGuest_25 : decode cX3_refusalOfGuest 25 = .ok (.bipush 8, 2) := by decide +kernel
theorem dX3_refusalOfGuest_27 : decode cX3_refusalOfGuest 27 = .ok (.if_icmp .lt 7, 3) := by decide +kernel
theorem dX3_refusalOfGuest_30 : decode cX3_refusalOfGuest 30 = .ok (.iconst 2, 1) := by decide +kernel
theorem dX3_refusalOfGuest_31 : decode cX3_refusalOfGuest 31 = .ok (.goto 4, 3) := by decide +kernel
theorem dX3_refusalOfGuest_34 : decode cX3_refusalOfGuest 34 = .ok (.iconst 0, 1) := by decide +kernel
theorem dX3_refusalOfGuest_35 : decode cX3_refusalOfGuest 35 = .ok (.ireturn, 1) := by decide +kernel
set_option maxRecDepth 20000 in
theorem ggX3_refusalOfFeather_X3_hasGuest : GoodIn wsX3_refusalOfFeather wsX3_hasGuest := goodIn_r _ [6, 7, 8, 9, 10, 11, 12, 13, 14, 15, 16, 17, 18, 19, 20, 21, 22] (by decide +kernel) (by decide +kernel)
set_option maxRecDepth 20000 in
theorem gX3_refusalOfFeather_X3_hasGuest : GoodIn wsX3_refusalOfFeather (wsV RX3 65 RX3 yX3_hasGuest wsX3_hasGuest) := goodIn_app (goodIn_of _ (by decide +kernel)) ggX3_refusalOfFeather_X3_hasGuest
theorem dX3_refusalOfFeather_0 : decode cX3_refusalOfFeather 0 = .ok (.aload_n 0, 1) := by decide +kernel
theorem dX3_refusalOfFeather_1 : decode cX3_refusalOfFeather 1 = .ok (.iload_n 1, 1) := by decide +kernel
theorem dX3_refusalOfFeather_2 : decode cX3_refusalOfFeather 2 = .ok (.invokevirtual 65, 3) := by decide +kernel
theorem dX3_refusalOfFeather_5 : decode cX3_refusalOfFeather 5 = .ok (.ifCond .ne 5, 3) := by decide +kernel
theorem dX3_refusalOfFeather_8 : decode cX3_refusalOfFeather 8 = .ok (.iconst 1, 1) := by decide +kernel
theorem dX3_refusalOfFeather_9 : decode cX3_refusalOfFeather 9 = .ok (.ireturn, 1) := by decide +kernel
theorem dX3_refusalOfFeather_10 : decode cX3_refusalOfFeather 10 = .ok (.aload_n 0, 1) := by decide +kernel
theorem dX3_refusalOfFeather_11 : decode cX3_refusalOfFeather 11 = .ok (.getfield 9, 3) := by decide +kernel
theorem dX3_refusalOfFeather_14 : decode cX3_refusalOfFeather 14 = .ok (.iload_n 1, 1) := by decide +kernel
theorem dX3_refusalOfFeather_15 : decode cX3_refusalOfFeather 15 = .ok (.iaload, 1) := by decide +kernel
theorem dX3_refusalOfFeather_16 : decode cX3_refusalOfFeather 16 = .ok (.bipush 9, 2) := by decide +kernel
theorem dX3_refusalOfFeather_18 : decode cX3_refusalOfFeather 18 = .ok (.if_icmp .lt 7, 3) := by decide +kernel
theorem dX3_refusalOfFeather_21 : decode cX3_refusalOfFeather 21 = .ok (.iconst 2, 1) := by decide +kernel
theorem dX3_refusalOfFeather_22 : decode cX3_refusalOfFeather 22 = .ok (.goto 4, 3) := by decide +kernel
theorem dX3_refusalOfFeather_25 : decode cX3_refusalOfFeather 25 = .ok (.iconst 0, 1) := by decide +kernel
theorem dX3_refusalOfFeather_26 : decode cX3_refusalOfFeather 26 = .ok (.ireturn, 1) := by decide +kernel
set_option maxRecDepth 20000 in
theorem ggX3_refusalOfHat_X3_hasGuest : GoodIn wsX3_refusalOfHat wsX3_hasGuest := goodIn_r _ [5, 6, 20, 21, 22, 23, 24, 25, 26, 27, 28, 29, 30, 31, 32, 33, 34] (by decide +kernel) (by decide +kernel)
set_option maxRecDepth 20000 in
theorem gX3_refusalOfHat_X3_hasGuest : GoodIn wsX3_refusalOfHat (wsV RX3 65 RX3 yX3_hasGuest wsX3_hasGuest) := goodIn_app (goodIn_of _ (by decide +kernel)) ggX3_refusalOfHat_X3_hasGuest
set_option maxRecDepth 20000 in
theorem ggX3_refusalOfHat_X3_hasChair : GoodIn wsX3_refusalOfHat wsX3_hasChair := goodIn_r _ [9] (by decide +kernel) (by decide +kernel)
set_option maxRecDepth 20000 in
theorem gX3_refusalOfHat_X3_hasChair : GoodIn wsX3_refusalOfHat (va_wsS RX3 69 yX3_hasChair wsX3_hasChair) := goodIn_app (goodIn_of _ (by decide +kernel)) ggX3_refusalOfHat_X3_hasChair
set_option maxRecDepth 20000 in
theorem ggX3_refusalOfHat_X3_hatIsPlaced : GoodIn wsX3_refusalOfHat wsX3_hatIsPlaced := goodIn_ca (goodIn_r _ [13, 14, 20, 21, 22, 23, 24, 25, 26, 27, 28, 29, 30, 31, 32, 33, 34] (by decide +kernel) (by decide +kernel)) (goodIn_sub (fun _ h => List.mem_cons_of_mem _ (List.mem_append_right _ h)) (by decide +kernel))
set_option maxRecDepth 20000 in
theorem gX3_refusalOfHat_X3_hatIsPlaced : GoodIn wsX3_refusalOfHat (wsV RX3 72 RX3 yX3_hatIsPlaced wsX3_hatIsPlaced) := goodIn_app (goodIn_of _ (by decide +kernel)) ggX3_refusalOfHat_X3_hatIsPlaced
set_option maxRecDepth 20000 in
theorem ggX3_refusalOfHat_X3_covererAt : GoodIn wsX3_refusalOfHat wsX3_covererAt := goodIn_ca (goodIn_r _ [18, 19, 20, 21, 22, 23, 24, 25, 26, 27, 28, 29, 30, 31, 32, 33, 34] (by decide +kernel) (by decide +kernel)) (goodIn_sub (fun _ h => List.mem_cons_of_mem _ (List.mem_append_right _ h)) (by decide +kernel))
set_option maxRecDepth 20000 in
theorem gX3_refusalOfHat_X3_covererAt : GoodIn wsX3_refusalOfHat (wsV RX3 75 RX3 yX3_covererAt wsX3_covererAt) := goodIn_app (goodIn_of _ (by decide +kernel)) ggX3_refusalOfHat_X3_covererAt
theorem dX3_refusalOfHat_0 : decode cX3_refusalOfHat 0 = .ok (.aload_n 0, 1) := by decide +kernel
theorem dX3_refusalOfHat_1 : decode cX3_refusalOfHat 1 = .ok (.iload_n 1, 1) := by decide +kernel
theorem dX3_refusalOfHat_2 : decode cX3_refusalOfHat 2 = .ok (.invokevirtual 65, 3) := by decide +kernel
theorem dX3_refusalOfHat_5 : decode cX3_refusalOfHat 5 = .ok (.ifCond .eq 10, 3) := by decide +kernel
theorem dX3_refusalOfHat_8 : decode cX3_refusalOfHat 8 = .ok (.iload_n 2, 1) := by decide +kernel
theorem dX3_refusalOfHat_9 : decode cX3_refusalOfHat 9 = .ok (.invokestatic 69, 3) := by decide +kernel
theorem dX3_refusalOfHat_12 : decode cX3_refusalOfHat 12 = .ok (.ifCond .ne 5, 3) := by decide +kernel
theorem dX3_refusalOfHat_15 : decode cX3_refusalOfHat 15 = .ok (.iconst 1, 1) := by decide +kernel
theorem dX3_refusalOfHat_16 : decode cX3_refusalOfHat 16 = .ok (.ireturn, 1) := by decide +kernel
theorem dX3_refusalOfHat_17 : decode cX3_refusalOfHat 17 = .ok (.aload_n 0, 1) := by decide +kernel
theorem dX3_refusalOfHat_18 : decode cX3_refusalOfHat 18 = .ok (.iload_n 1, 1) := by decide +kernel
theorem dX3_refusalOfHat_19 : decode cX3_refusalOfHat 19 = .ok (.invokevirtual 72, 3) := by decide +kernel
theorem dX3_refusalOfHat_22 : decode cX3_refusalOfHat 22 = .ok (.ifCond .eq 5, 3) := by decide +kernel
theorem dX3_refusalOfHat_25 : decode cX3_refusalOfHat 25 = .ok (.iconst 2, 1) := by decide +kernel
theorem dX3_refusalOfHat_26 : decode cX3_refusalOfHat 26 = .ok (.ireturn, 1) := by decide +kernel
theorem dX3_refusalOfHat_27 : decode cX3_refusalOfHat 27 = .ok (.aload_n 0, 1) := by decide +kernel
theorem dX3_refusalOfHat_28 : decode cX3_refusalOfHat 28 = .ok (.iload_n 2, 1) := by decide +kernel
theorem dX3_refusalOfHat_29 : decode cX3_refusalOfHat 29 = .ok (.invokevirtual 75, 3) := by decide +kernel
theorem dX3_refusalOfHat_32 : decode cX3_refusalOfHat 32 = .ok (.iconst (-1), 1) := by decide +kernel
theorem dX3_refusalOfHat_33 : decode cX3_refusalOfHat 33 = .ok (.if_icmp .eq 7, 3) := by decide +kernel
theorem dX3_refusalOfHat_36 : decode cX3_refusalOfHat 36 = .ok (.iconst 3, 1) := by decide +kernel
theorem dX3_refusalOfHat_37 : decode cX3_refusalOfHat 37 = .ok (.goto 4, 3) := by decide +kernel
theorem dX3_refusalOfHat_40 : decode cX3_refusalOfHat 40 = .ok (.iconst 0, 1) := by decide +kernel
theorem dX3_refusalOfHat_41 : decode cX3_refusalOfHat 41 = .ok (.ireturn, 1) := by decide +kernel
set_option maxRecDepth 20000 in
theorem ggX3_refusalWithoutHat_X3_hasGuest : GoodIn wsX3_refusalWithoutHat wsX3_hasGuest := goodIn_r _ [5, 6, 12, 13, 14, 15, 16, 17, 18, 19, 20, 21, 22, 23, 24, 25, 26] (by decide +kernel) (by decide +kernel)
set_option maxRecDepth 20000 in
theorem gX3_refusalWithoutHat_X3_hasGuest : GoodIn wsX3_refusalWithoutHat (wsV RX3 65 RX3 yX3_hasGuest wsX3_hasGuest) := goodIn_app (goodIn_of _ (by decide +kernel)) ggX3_refusalWithoutHat_X3_hasGuest
set_option maxRecDepth 20000 in
theorem ggX3_refusalWithoutHat_X3_hatIsPlaced : GoodIn wsX3_refusalWithoutHat wsX3_hatIsPlaced := goodIn_ca (goodIn_r _ [10, 11, 12, 13, 14, 15, 16, 17, 18, 19, 20, 21, 22, 23, 24, 25, 26] (by decide +kernel) (by decide +kernel)) (goodIn_sub (fun _ h => List.mem_cons_of_mem _ (List.mem_append_right _ h)) (by decide +kernel))
set_option maxRecDepth 20000 in
theorem gX3_refusalWithoutHat_X3_hatIsPlaced : GoodIn wsX3_refusalWithoutHat (wsV RX3 72 RX3 yX3_hatIsPlaced wsX3_hatIsPlaced) := goodIn_app (goodIn_of _ (by decide +kernel)) ggX3_refusalWithoutHat_X3_hatIsPlaced
theorem dX3_refusalWithoutHat_0 : decode cX3_refusalWithoutHat 0 = .ok (.aload_n 0, 1) := by decide +kernel
theorem dX3_refusalWithoutHat_1 : decode cX3_refusalWithoutHat 1 = .ok (.iload_n 1, 1) := by decide +kernel
theorem dX3_refusalWithoutHat_2 : decode cX3_refusalWithoutHat 2 = .ok (.invokevirtual 65, 3) := by decide +kernel
theorem dX3_refusalWithoutHat_5 : decode cX3_refusalWithoutHat 5 = .ok (.ifCond .ne 5, 3) := by decide +kernel
theorem dX3_refusalWithoutHat_8 : decode cX3_refusalWithoutHat 8 = .ok (.iconst 1, 1) := by decide +kernel
theorem dX3_refusalWithoutHat_9 : decode cX3_refusalWithoutHat 9 = .ok (.ireturn, 1) := by decide +kernel
theorem dX3_refusalWithoutHat_10 : decode cX3_refusalWithoutHat 10 = .ok (.aload_n 0, 1) := by decide +kernel
theorem dX3_refusalWithoutHat_11 : decode cX3_refusalWithoutHat 11 = .ok (.iload_n 1, 1) := by decide +kernel
theorem dX3_refusalWithoutHat_12 : decode cX3_refusalWithoutHat 12 = .ok (.invokevirtual 72, 3) := by decide +kernel
theorem dX3_refusalWithoutHat_15 : decode cX3_refusalWithoutHat 15 = .ok (.ifCond .eq 7, 3) := by decide +kernel
theorem dX3_refusalWithoutHat_18 : decode cX3_refusalWithoutHat 18 = .ok (.iconst 0, 1) := by decide +kernel
theorem dX3_refusalWithoutHat_19 : decode cX3_refusalWithoutHat 19 = .ok (.goto 4, 3) := by decide +kernel
theorem dX3_refusalWithoutHat_22 : decode cX3_refusalWithoutHat 22 = .ok (.iconst 2, 1) := by decide +kernel
theorem dX3_refusalWithoutHat_23 : decode cX3_refusalWithoutHat 23 = .ok (.ireturn, 1) := by decide +kernel
set_option maxRecDepth 20000 in
theorem ggX3_refusalOfCoat_X3_hasGuest : GoodIn wsX3_refusalOfCoat wsX3_hasGuest := goodIn_r _ [6, 7, 20, 21, 22, 23, 24, 25, 26, 27, 28, 29, 30, 31, 32, 33, 34] (by decide +kernel) (by decide +kernel)
set_option maxRecDepth 20000 in
theorem gX3_refusalOfCoat_X3_hasGuest : GoodIn wsX3_refusalOfCoat (wsV RX3 65 RX3 yX3_hasGuest wsX3_hasGuest) := goodIn_app (goodIn_of _ (by decide +kernel)) ggX3_refusalOfCoat_X3_hasGuest
set_option maxRecDepth 20000 in
theorem ggX3_refusalOfCoat_X3_hasChair : GoodIn wsX3_refusalOfCoat wsX3_hasChair := goodIn_r _ [10] (by decide +kernel) (by decide +kernel)
set_option maxRecDepth 20000 in
theorem gX3_refusalOfCoat_X3_hasChair : GoodIn wsX3_refusalOfCoat (va_wsS RX3 69 yX3_hasChair wsX3_hasChair) := goodIn_app (goodIn_of _ (by decide +kernel)) ggX3_refusalOfCoat_X3_hasChair
set_option maxRecDepth 20000 in
theorem ggX3_refusalOfCoat_X3_covererAt : GoodIn wsX3_refusalOfCoat wsX3_covererAt := goodIn_ca (goodIn_r _ [14, 15, 20, 21, 22, 23, 24, 25, 26, 27, 28, 29, 30, 31, 32, 33, 34] (by decide +kernel) (by decide +kernel)) (goodIn_sub (fun _ h => List.mem_cons_of_mem _ (List.mem_append_right _ h)) (by decide +kernel))
set_option maxRecDepth 20000 in
theorem gX3_refusalOfCoat_X3_covererAt : GoodIn wsX3_refusalOfCoat (wsV RX3 75 RX3 yX3_covererAt wsX3_covererAt) := goodIn_app (goodIn_of _ (by decide +kernel)) ggX3_refusalOfCoat_X3_covererAt
set_option maxRecDepth 20000 in
theorem ggX3_refusalOfCoat_X3_coatsOn : GoodIn wsX3_refusalOfCoat wsX3_coatsOn := goodIn_ca (goodIn_r _ [19, 1, 20, 21, 22, 23, 24, 25, 26, 27, 28, 29, 30, 31, 32, 33, 34] (by decide +kernel) (by decide +kernel)) (goodIn_sub (fun _ h => List.mem_cons_of_mem _ (List.mem_append_right _ h)) (by decide +kernel))
set_option maxRecDepth 20000 in
theorem gX3_refusalOfCoat_X3_coatsOn : GoodIn wsX3_refusalOfCoat (wsV RX3 79 RX3 yX3_coatsOn wsX3_coatsOn) := goodIn_app (goodIn_of _ (by decide +kernel)) ggX3_refusalOfCoat_X3_coatsOn
theorem dX3_refusalOfCoat_0 : decode cX3_refusalOfCoat 0 = .ok (.aload_n 0, 1) := by decide +kernel
theorem dX3_refusalOfCoat_1 : decode cX3_refusalOfCoat 1 = .ok (.iload_n 1, 1) := by decide +kernel
theorem dX3_refusalOfCoat_2 : decode cX3_refusalOfCoat 2 = .ok (.invokevirtual 65, 3) := by decide +kernel
theorem dX3_refusalOfCoat_5 : decode cX3_refusalOfCoat 5 = .ok (.ifCond .eq 10, 3) := by decide +kernel
theorem dX3_refusalOfCoat_8 : decode cX3_refusalOfCoat 8 = .ok (.iload_n 2, 1) := by decide +kernel
theorem dX3_refusalOfCoat_9 : decode cX3_refusalOfCoat 9 = .ok (.invokestatic 69, 3) := by decide +kernel
theorem dX3_refusalOfCoat_12 : decode cX3_refusalOfCoat 12 = .ok (.ifCond .ne 5, 3) := by decide +kernel
theorem dX3_refusalOfCoat_15 : decode cX3_refusalOfCoat 15 = .ok (.iconst 1, 1) := by decide +kernel
theorem dX3_refusalOfCoat_16 : decode cX3_refusalOfCoat 16 = .ok (.ireturn, 1) := by decide +kernel
theorem dX3_refusalOfCoat_17 : decode cX3_refusalOfCoat 17 = .ok (.aload_n 0, 1) := by decide +kernel
theorem dX3_refusalOfCoat_18 : decode cX3_refusalOfCoat 18 = .ok (.getfield 28, 3) := by decide +kernel
theorem dX3_refusalOfCoat_21 : decode cX3_refusalOfCoat 21 = .ok (.iload_n 1, 1) := by decide +kernel
theorem dX3_refusalOfCoat_22 : decode cX3_refusalOfCoat 22 = .ok (.iaload, 1) := by decide +kernel
theorem dX3_refusalOfCoat_23 : decode cX3_refusalOfCoat 23 = .ok (.iconst (-1), 1) := by decide +kernel
theorem dX3_refusalOfCoat_24 : decode cX3_refusalOfCoat 24 = .ok (.if_icmp .eq 5, 3) := by decide +kernel
theorem dX3_refusalOfCoat_27 : decode cX3_refusalOfCoat 27 = .ok (.iconst 2, 1) := by decide +kernel
theorem dX3_refusalOfCoat_28 : decode cX3_refusalOfCoat 28 = .ok (.ireturn, 1) := by decide +kernel
theorem dX3_refusalOfCoat_29 : decode cX3_refusalOfCoat 29 = .ok (.aload_n 0, 1) := by decide +kernel
theorem dX3_refusalOfCoat_30 : decode cX3_refusalOfCoat 30 = .ok (.iload_n 2, 1) := by decide +kernel
theorem dX3_refusalOfCoat_31 : decode cX3_refusalOfCoat 31 = .ok (.invokevirtual 75, 3) := by decide +kernel
theorem dX3_refusalOfCoat_34 : decode cX3_refusalOfCoat 34 = .ok (.istore_n 3, 1) := by decide +kernel
theorem dX3_refusalOfCoat_35 : decode cX3_refusalOfCoat 35 = .ok (.iload_n 3, 1) := by decide +kernel
theorem dX3_refusalOfCoat_36 : decode cX3_refusalOfCoat 36 = .ok (.iconst (-1), 1) := by decide +kernel
theorem dX3_refusalOfCoat_37 : decode cX3_refusalOfCoat 37 = .ok (.if_icmp .eq 12, 3) := by decide +kernel
theorem dX3_refusalOfCoat_40 : decode cX3_refusalOfCoat 40 = .ok (.iload_n 3, 1) := by decide +kernel
theorem dX3_refusalOfCoat_41 : decode cX3_refusalOfCoat 41 = .ok (.iload_n 1, 1) := by decide +kernel
theorem dX3_refusalOfCoat_42 : decode cX3_refusalOfCoat 42 = .ok (.if_icmp .eq 7, 3) := by decide +kernel
theorem dX3_refusalOfCoat_45 : decode cX3_refusalOfCoat 45 = .ok (.iconst 1, 1) := by decide +kernel
theorem dX3_refusalOfCoat_46 : decode cX3_refusalOfCoat 46 = .ok (.goto 4, 3) := by decide +kernel
theorem dX3_refusalOfCoat_49 : decode cX3_refusalOfCoat 49 = .ok (.iconst 0, 1) := by decide +kernel
theorem dX3_refusalOfCoat_50 : decode cX3_refusalOfCoat 50 = .ok (.istore 4, 2) := by decide +kernel
theorem dX3_refusalOfCoat_52 : decode cX3_refusalOfCoat 52 = .ok (.iload 4, 2) := by decide +kernel
theorem dX3_refusalOfCoat_54 : decode cX3_refusalOfCoat 54 = .ok (.ifCond .eq 16, 3) := by decide +kernel
theorem dX3_refusalOfCoat_57 : decode cX3_refusalOfCoat 57 = .ok (.aload_n 0, 1) := by decide +kernel
theorem dX3_refusalOfCoat_58 : decode cX3_refusalOfCoat 58 = .ok (.iload_n 2, 1) := by decide +kernel
theorem dX3_refusalOfCoat_59 : decode cX3_refusalOfCoat 59 = .ok (.invokevirtual 79, 3) := by decide +kernel
theorem dX3_refusalOfCoat_62 : decode cX3_refusalOfCoat 62 = .ok (.iconst 3, 1) := by decide +kernel
theorem dX3_refusalOfCoat_63 : decode cX3_refusalOfCoat 63 = .ok (.if_icmp .ge 7, 3) := by decide +kernel
theorem dX3_refusalOfCoat_66 : decode cX3_refusalOfCoat 66 = .ok (.iconst 0, 1) := by decide +kernel
theorem dX3_refusalOfCoat_67 : decode cX3_refusalOfCoat 67 = .ok (.goto 4, 3) := by decide +kernel
theorem dX3_refusalOfCoat_70 : decode cX3_refusalOfCoat 70 = .ok (.iconst 3, 1) := by decide +kernel
theorem dX3_refusalOfCoat_71 : decode cX3_refusalOfCoat 71 = .ok (.ireturn, 1) := by decide +kernel
set_option maxRecDepth 20000 in
theorem ggX3_refusalWithoutCoat_X3_hasGuest : GoodIn wsX3_refusalWithoutCoat wsX3_hasGuest := goodIn_r _ [6, 7, 8, 9, 10, 11, 12, 13, 14, 15, 16, 17, 18, 19, 20, 21, 22] (by decide +kernel) (by decide +kernel)
set_option maxRecDepth 20000 in
theorem gX3_refusalWithoutCoat_X3_hasGuest : GoodIn wsX3_refusalWithoutCoat (wsV RX3 65 RX3 yX3_hasGuest wsX3_hasGuest) := goodIn_app (goodIn_of _ (by decide +kernel)) ggX3_refusalWithoutCoat_X3_hasGuest
theorem dX3_refusalWithoutCoat_0 : decode cX3_refusalWithoutCoat 0 = .ok (.aload_n 0, 1) := by decide +kernel
theorem dX3_refusalWithoutCoat_1 : decode cX3_refusalWithoutCoat 1 = .ok (.iload_n 1, 1) := by decide +kernel
theorem dX3_refusalWithoutCoat_2 : decode cX3_refusalWithoutCoat 2 = .ok (.invokevirtual 65, 3) := by decide +kernel
theorem dX3_refusalWithoutCoat_5 : decode cX3_refusalWithoutCoat 5 = .ok (.ifCond .ne 5, 3) := by decide +kernel
theorem dX3_refusalWithoutCoat_8 : decode cX3_refusalWithoutCoat 8 = .ok (.iconst 1, 1) := by decide +kernel
theorem dX3_refusalWithoutCoat_9 : decode cX3_refusalWithoutCoat 9 = .ok (.ireturn, 1) := by decide +kernel
theorem dX3_refusalWithoutCoat_10 : decode cX3_refusalWithoutCoat 10 = .ok (.aload_n 0, 1) := by decide +kernel
theorem dX3_refusalWithoutCoat_11 : decode cX3_refusalWithoutCoat 11 = .ok (.getfield 28, 3) := by decide +kernel
theorem dX3_refusalWithoutCoat_14 : decode cX3_refusalWithoutCoat 14 = .ok (.iload_n 1, 1) := by decide +kernel
theorem dX3_refusalWithoutCoat_15 : decode cX3_refusalWithoutCoat 15 = .ok (.iaload, 1) := by decide +kernel
theorem dX3_refusalWithoutCoat_16 : decode cX3_refusalWithoutCoat 16 = .ok (.iconst (-1), 1) := by decide +kernel
theorem dX3_refusalWithoutCoat_17 : decode cX3_refusalWithoutCoat 17 = .ok (.if_icmp .ne 7, 3) := by decide +kernel
theorem dX3_refusalWithoutCoat_20 : decode cX3_refusalWithoutCoat 20 = .ok (.iconst 2, 1) := by decide +kernel
theorem dX3_refusalWithoutCoat_21 : decode cX3_refusalWithoutCoat 21 = .ok (.goto 4, 3) := by decide +kernel
theorem dX3_refusalWithoutCoat_24 : decode cX3_refusalWithoutCoat 24 = .ok (.iconst 0, 1) := by decide +kernel
theorem dX3_refusalWithoutCoat_25 : decode cX3_refusalWithoutCoat 25 = .ok (.ireturn, 1) := by decide +kernel
set_option maxRecDepth 20000 in
theorem ggX3_refusalOfContest_X3_hasGuest : GoodIn wsX3_refusalOfContest wsX3_hasGuest := goodIn_r _ [5, 6, 20, 21, 22, 23, 24, 25, 26, 27, 28, 29, 30, 31, 32, 33, 34] (by decide +kernel) (by decide +kernel)
set_option maxRecDepth 20000 in
theorem gX3_refusalOfContest_X3_hasGuest : GoodIn wsX3_refusalOfContest (wsV RX3 65 RX3 yX3_hasGuest wsX3_hasGuest) := goodIn_app (goodIn_of _ (by decide +kernel)) ggX3_refusalOfContest_X3_hasGuest
set_option maxRecDepth 20000 in
theorem ggX3_refusalOfContest_X3_hasChair : GoodIn wsX3_refusalOfContest wsX3_hasChair := goodIn_r _ [9] (by decide +kernel) (by decide +kernel)
set_option maxRecDepth 20000 in
theorem gX3_refusalOfContest_X3_hasChair : GoodIn wsX3_refusalOfContest (va_wsS RX3 69 yX3_hasChair wsX3_hasChair) := goodIn_app (goodIn_of _ (by decide +kernel)) ggX3_refusalOfContest_X3_hasChair
set_option maxRecDepth 20000 in
theorem ggX3_refusalOfContest_X3_covererAt : GoodIn wsX3_refusalOfContest wsX3_covererAt := goodIn_ca (goodIn_r _ [13, 14, 20, 21, 22, 23, 24, 25, 26, 27, 28, 29, 30, 31, 32, 33, 34] (by decide +kernel) (by decide +kernel)) (goodIn_sub (fun _ h => List.mem_cons_of_mem _ (List.mem_append_right _ h)) (by decide +kernel))
set_option maxRecDepth 20000 in
theorem gX3_refusalOfContest_X3_covererAt : GoodIn wsX3_refusalOfContest (wsV RX3 75 RX3 yX3_covererAt wsX3_covererAt) := goodIn_app (goodIn_of _ (by decide +kernel)) ggX3_refusalOfContest_X3_covererAt
set_option maxRecDepth 20000 in
theorem ggX3_refusalOfContest_X3_hatIsPlaced : GoodIn wsX3_refusalOfContest wsX3_hatIsPlaced := goodIn_ca (goodIn_r _ [18, 19, 20, 21, 22, 23, 24, 25, 26, 27, 28, 29, 30, 31, 32, 33, 34] (by decide +kernel) (by decide +kernel)) (goodIn_sub (fun _ h => List.mem_cons_of_mem _ (List.mem_append_right _ h)) (by decide +kernel))
set_option maxRecDepth 20000 in
theorem gX3_refusalOfContest_X3_hatIsPlaced : GoodIn wsX3_refusalOfContest (wsV RX3 72 RX3 yX3_hatIsPlaced wsX3_hatIsPlaced) := goodIn_app (goodIn_of _ (by decide +kernel)) ggX3_refusalOfContest_X3_hatIsPlaced
theorem dX3_refusalOfContest_0 : decode cX3_refusalOfContest 0 = .ok (.aload_n 0, 1) := by decide +kernel
theorem dX3_refusalOfContest_1 : decode cX3_refusalOfContest 1 = .ok (.iload_n 1, 1) := by decide +kernel
theorem dX3_refusalOfContest_2 : decode cX3_refusalOfContest 2 = .ok (.invokevirtual 65, 3) := by decide +kernel
theorem dX3_refusalOfContest_5 : decode cX3_refusalOfContest 5 = .ok (.ifCond .eq 10, 3) := by decide +kernel
theorem dX3_refusalOfContest_8 : decode cX3_refusalOfContest 8 = .ok (.iload_n 2, 1) := by decide +kernel
theorem dX3_refusalOfContest_9 : decode cX3_refusalOfContest 9 = .ok (.invokestatic 69, 3) := by decide +kernel
theorem dX3_refusalOfContest_12 : decode cX3_refusalOfContest 12 = .ok (.ifCond .ne 5, 3) := by decide +kernel
theorem dX3_refusalOfContest_15 : decode cX3_refusalOfContest 15 = .ok (.iconst 1, 1) := by decide +kernel
theorem dX3_refusalOfContest_16 : decode cX3_refusalOfContest 16 = .ok (.ireturn, 1) := by decide +kernel
theorem dX3_refusalOfContest_17 : decode cX3_refusalOfContest 17 = .ok (.aload_n 0, 1) := by decide +kernel
theorem dX3_refusalOfContest_18 : decode cX3_refusalOfContest 18 = .ok (.iload_n 2, 1) := by decide +kernel
theorem dX3_refusalOfContest_19 : decode cX3_refusalOfContest 19 = .ok (.invokevirtual 75, 3) := by decide +kernel
theorem dX3_refusalOfContest_22 : decode cX3_refusalOfContest 22 = .ok (.iconst (-1), 1) := by decide +kernel
theorem dX3_refusalOfContest_23 : decode cX3_refusalOfContest 23 = .ok (.if_icmp .ne 5, 3) := by decide +kernel
theorem dX3_refusalOfContest_26 : decode cX3_refusalOfContest 26 = .ok (.iconst 2, 1) := by decide +kernel
theorem dX3_refusalOfContest_27 : decode cX3_refusalOfContest 27 = .ok (.ireturn, 1) := by decide +kernel
theorem dX3_refusalOfContest_28 : decode cX3_refusalOfContest 28 = .ok (.aload_n 0, 1) := by decide +kernel
theorem dX3_refusalOfContest_29 : decode cX3_refusalOfContest 29 = .ok (.iload_n 1, 1) := by decide +kernel
theorem dX3_refusalOfContest_30 : decode cX3_refusalOfContest 30 = .ok (.invokevirtual 72, 3) := by decide +kernel
theorem dX3_refusalOfContest_33 : decode cX3_refusalOfContest 33 = .ok (.ifCond .eq 7, 3) := by decide +kernel
theorem dX3_refusalOfContest_36 : decode cX3_refusalOfContest 36 = .ok (.iconst 3, 1) := by decide +kernel
theorem dX3_refusalOfContest_37 : decode cX3_refusalOfContest 37 = .ok (.goto 4, 3) := by decide +kernel
theorem dX3_refusalOfContest_40 : decode cX3_refusalOfContest 40 = .ok (.iconst 0, 1) := by decide +kernel
theorem dX3_refusalOfContest_41 : decode cX3_refusalOfContest 41 = .ok (.ireturn, 1) := by decide +kernel
theorem dX3_refusalOfPass_0 : decode cX3_refusalOfPass 0 = .ok (.iload_n 1, 1) := by decide +kernel
theorem dX3_refusalOfPass_1 : decode cX3_refusalOfPass 1 = .ok (.iconst 1, 1) := by decide +kernel
theorem dX3_refusalOfPass_2 : decode cX3_refusalOfPass 2 = .ok (.if_icmp .lt 9, 3) := by decide +kernel
theorem dX3_refusalOfPass_5 : decode cX3_refusalOfPass 5 = .ok (.iload_n 1, 1) := by decide +kernel
theorem dX3_refusalOfPass_6 : decode cX3_refusalOfPass 6 = .ok (.bipush 60, 2) := by decide +kernel
theorem dX3_refusalOfPass_8 : decode cX3_refusalOfPass 8 = .ok (.if_icmp .le 7, 3) := by decide +kernel
theorem dX3_refusalOfPass_11 : decode cX3_refusalOfPass 11 = .ok (.iconst 1, 1) := by decide +kernel
theorem dX3_refusalOfPass_12 : decode cX3_refusalOfPass 12 = .ok (.goto 4, 3) := by decide +kernel
theorem dX3_refusalOfPass_15 : decode cX3_refusalOfPass 15 = .ok (.iconst 0, 1) := by decide +kernel
theorem dX3_refusalOfPass_16 : decode cX3_refusalOfPass 16 = .ok (.ireturn, 1) := by decide +kernel
theorem dX3_refusalOfSweep_0 : decode cX3_refusalOfSweep 0 = .ok (.iload_n 1, 1) := by decide +kernel
theorem dX3_refusalOfSweep_1 : decode cX3_refusalOfSweep 1 = .ok (.iconst 1, 1) := by decide +kernel
theorem dX3_refusalOfSweep_2 : decode cX3_refusalOfSweep 2 = .ok (.if_icmp .lt 10, 3) := by decide +kernel
theorem dX3_refusalOfSweep_5 : decode cX3_refusalOfSweep 5 = .ok (.iload_n 1, 1) := by decide +kernel
theorem dX3_refusalOfSweep_6 : decode cX3_refusalOfSweep 6 = .ok (.sipush 240, 3) := by decide +kernel
theorem dX3_refusalOfSweep_9 : decode cX3_refusalOfSweep 9 = .ok (.if_icmp .le 7, 3) := by decide +kernel
theorem dX3_refusalOfSweep_12 : decode cX3_refusalOfSweep 12 = .ok (.iconst 1, 1) := by decide +kernel
theorem dX3_refusalOfSweep_13 : decode cX3_refusalOfSweep 13 = .ok (.goto 4, 3) := by decide +kernel
theorem dX3_refusalOfSweep_16 : decode cX3_refusalOfSweep 16 = .ok (.iconst 0, 1) := by decide +kernel
theorem dX3_refusalOfSweep_17 : decode cX3_refusalOfSweep 17 = .ok (.ireturn, 1) := by decide +kernel
theorem dX3_welcome_0 : decode cX3_welcome 0 = .ok (.aload_n 0, 1) := by decide +kernel
theorem dX3_welcome_1 : decode cX3_welcome 1 = .ok (.getfield 41, 3) := by decide +kernel
theorem dX3_welcome_4 : decode cX3_welcome 4 = .ok (.istore_n 3, 1) := by decide +kernel
theorem dX3_welcome_5 : decode cX3_welcome 5 = .ok (.aload_n 0, 1) := by decide +kernel
theorem dX3_welcome_6 : decode cX3_welcome 6 = .ok (.getfield 9, 3) := by decide +kernel
theorem dX3_welcome_9 : decode cX3_welcome 9 = .ok (.iload_n 3, 1) := by decide +kernel
theorem dX3_welcome_10 : decode cX3_welcome 10 = .ok (.iload_n 1, 1) := by decide +kernel
theorem dX3_welcome_11 : decode cX3_welcome 11 = .ok (.iastore, 1) := by decide +kernel
theorem dX3_welcome_12 : decode cX3_welcome 12 = .ok (.aload_n 0, 1) := by decide +kernel
theorem dX3_welcome_13 : decode cX3_welcome 13 = .ok (.getfield 15, 3) := by decide +kernel
theorem dX3_welcome_16 : decode cX3_welcome 16 = .ok (.iload_n 3, 1) := by decide +kernel
theorem dX3_welcome_17 : decode cX3_welcome 17 = .ok (.iload_n 2, 1) := by decide +kernel
theorem dX3_welcome_18 : decode cX3_welcome 18 = .ok (.iastore, 1) := by decide +kernel
theorem dX3_welcome_19 : decode cX3_welcome 19 = .ok (.aload_n 0, 1) := by decide +kernel
theorem dX3_welcome_20 : decode cX3_welcome 20 = .ok (.dup, 1) := by decide +kernel
theorem dX3_welcome_21 : decode cX3_welcome 21 = .ok (.getfield 41, 3) := by decide +kernel
theorem dX3_welcome_24 : decode cX3_welcome 24 = .ok (.iconst 1, 1) := by decide +kernel
theorem dX3_welcome_25 : decode cX3_welcome 25 = .ok (.iadd, 1) := by decide +kernel
theorem dX3_welcome_26 : decode cX3_welcome 26 = .ok (.putfield 41, 3) := by decide +kernel
theorem dX3_welcome_29 : decode cX3_welcome 29 = .ok (.iload_n 3, 1) := by decide +kernel
theorem dX3_welcome_30 : decode cX3_welcome 30 = .ok (.ireturn, 1) := by decide +kernel
theorem dX3_gainFeather_0 : decode cX3_gainFeather 0 = .ok (.aload_n 0, 1) := by decide +kernel
theorem dX3_gainFeather_1 : decode cX3_gainFeather 1 = .ok (.getfield 9, 3) := by decide +kernel
theorem dX3_gainFeather_4 : decode cX3_gainFeather 4 = .ok (.iload_n 1, 1) := by decide +kernel
theorem dX3_gainFeather_5 : decode cX3_gainFeather 5 = .ok (.dup2, 1) := by decide +kernel
theorem dX3_gainFeather_6 : decode cX3_gainFeather 6 = .ok (.iaload, 1) := by decide +kernel
theorem dX3_gainFeather_7 : decode cX3_gainFeather 7 = .ok (.iconst 1, 1) := by decide +kernel
theorem dX3_gainFeather_8 : decode cX3_gainFeather 8 = .ok (.iadd, 1) := by decide +kernel
theorem dX3_gainFeather_9 : decode cX3_gainFeather 9 = .ok (.iastore, 1) := by decide +kernel
theorem dX3_gainFeather_10 : decode cX3_gainFeather 10 = .ok (.aload_n 0, 1) := by decide +kernel
theorem dX3_gainFeather_11 : decode cX3_gainFeather 11 = .ok (.getfield 9, 3) := by decide +kernel
theorem dX3_gainFeather_14 : decode cX3_gainFeather 14 = .ok (.iload_n 1, 1) := by decide +kernel
theorem dX3_gainFeather_15 : decode cX3_gainFeather 15 = .ok (.iaload, 1) := by decide +kernel
theorem dX3_gainFeather_16 : decode cX3_gainFeather 16 = .ok (.ireturn, 1) := by decide +kernel
theorem dX3_hatIsPlaced_0 : decode cX3_hatIsPlaced 0 = .ok (.aload_n 0, 1) := by decide +kernel
theorem dX3_hatIsPlaced_1 : decode cX3_hatIsPlaced 1 = .ok (.getfield 18, 3) := by decide +kernel
theorem dX3_hatIsPlaced_4 : decode cX3_hatIsPlaced 4 = .ok (.iload_n 1, 1) := by decide +kernel
theorem dX3_hatIsPlaced_5 : decode cX3_hatIsPlaced 5 = .ok (.iaload, 1) := by decide +kernel
theorem dX3_hatIsPlaced_6 : decode cX3_hatIsPlaced 6 = .ok (.iconst (-1), 1) := by decide +kernel
theorem dX3_hatIsPlaced_7 : decode cX3_hatIsPlaced 7 = .ok (.if_icmp .eq 7, 3) := by decide +kernel
theorem dX3_hatIsPlaced_10 : decode cX3_hatIsPlaced 10 = .ok (.iconst 1, 1) := by decide +kernel
theorem dX3_hatIsPlaced_11 : decode cX3_hatIsPlaced 11 = .ok (.goto 4, 3) := by decide +kernel
theorem dX3_hatIsPlaced_14 : decode cX3_hatIsPlaced 14 = .ok (.iconst 0, 1) := by decide +kernel
theorem dX3_hatIsPlaced_15 : decode cX3_hatIsPlaced 15 = .ok (.ireturn, 1) := by decide +kernel
set_option maxRecDepth 20000 in
theorem ggX3_coverOf_J13_bitCount_95d88 : GoodIn wsX3_coverOf wsJ13_bitCount_95d88 := goodIn_r _ [5, 6, 7, 8] (by decide +kernel) (by decide +kernel)
set_option maxRecDepth 20000 in
theorem gX3_coverOf_J13_bitCount_95d88 : GoodIn wsX3_coverOf (va_wsS RX3 82 yJ13_bitCount_95d88 wsJ13_bitCount_95d88) := goodIn_app (goodIn_of _ (by decide +kernel)) ggX3_coverOf_J13_bitCount_95d88
theorem dX3_coverOf_0 : decode cX3_coverOf 0 = .ok (.aload_n 0, 1) := by decide +kernel
theorem dX3_coverOf_1 : decode cX3_coverOf 1 = .ok (.getfield 24, 3) := by decide +kernel
theorem dX3_coverOf_4 : decode cX3_coverOf 4 = .ok (.iload_n 1, 1) := by decide +kernel
theorem dX3_coverOf_5 : decode cX3_coverOf 5 = .ok (.laload, 1) := by decide +kernel
theorem dX3_coverOf_6 : decode cX3_coverOf 6 = .ok (.invokestatic 82, 3) := by decide +kernel
theorem dX3_coverOf_9 : decode cX3_coverOf 9 = .ok (.ireturn, 1) := by decide +kernel
theorem dX3_idleTime_0 : decode cX3_idleTime 0 = .ok (.aload_n 0, 1) := by decide +kernel
theorem dX3_idleTime_1 : decode cX3_idleTime 1 = .ok (.getfield 44, 3) := by decide +kernel
theorem dX3_idleTime_4 : decode cX3_idleTime 4 = .ok (.aload_n 0, 1) := by decide +kernel
theorem dX3_idleTime_5 : decode cX3_idleTime 5 = .ok (.getfield 21, 3) := by decide +kernel
theorem dX3_idleTime_8 : decode cX3_idleTime 8 = .ok (.iload_n 1, 1) := by decide +kernel
theorem dX3_idleTime_9 : decode cX3_idleTime 9 = .ok (.iaload, 1) := by decide +kernel
theorem dX3_idleTime_10 : decode cX3_idleTime 10 = .ok (.isub, 1) := by decide +kernel
theorem dX3_idleTime_11 : decode cX3_idleTime 11 = .ok (.ireturn, 1) := by decide +kernel
set_option maxRecDepth 20000 in
theorem ggX3_startIdleTimeAgain_X3_idleTime : GoodIn wsX3_startIdleTimeAgain wsX3_idleTime := goodIn_ca (goodIn_r _ [7, 2, 1, 8, 9, 10, 11, 12, 13, 14, 15, 16, 17, 18, 19, 20, 21, 22] (by decide +kernel) (by decide +kernel)) (goodIn_sub (fun _ h => List.mem_cons_of_mem _ (List.mem_append_right _ h)) (by decide +kernel))
set_option maxRecDepth 20000 in
theorem gX3_startIdleTimeAgain_X3_idleTime : GoodIn wsX3_startIdleTimeAgain (wsV RX3 88 RX3 yX3_idleTime wsX3_idleTime) := goodIn_app (goodIn_of _ (by decide +kernel)) ggX3_startIdleTimeAgain_X3_idleTime
theorem dX3_startIdleTimeAgain_0 : decode cX3_startIdleTimeAgain 0 = .ok (.aload_n 0, 1) := by decide +kernel
theorem dX3_startIdleTimeAgain_1 : decode cX3_startIdleTimeAgain 1 = .ok (.iload_n 1, 1) := by decide +kernel
theorem dX3_startIdleTimeAgain_2 : decode cX3_startIdleTimeAgain 2 = .ok (.invokevirtual 88, 3) := by decide +kernel
theorem dX3_startIdleTimeAgain_5 : decode cX3_startIdleTimeAgain 5 = .ok (.istore_n 2, 1) := by decide +kernel
theorem dX3_startIdleTimeAgain_6 : decode cX3_startIdleTimeAgain 6 = .ok (.aload_n 0, 1) := by decide +kernel
theorem dX3_startIdleTimeAgain_7 : decode cX3_startIdleTimeAgain 7 = .ok (.getfield 21, 3) := by decide +kernel
theorem dX3_startIdleTimeAgain_10 : decode cX3_startIdleTimeAgain 10 = .ok (.iload_n 1, 1) := by decide +kernel
theorem dX3_startIdleTimeAgain_11 : decode cX3_startIdleTimeAgain 11 = .ok (.aload_n 0, 1) := by decide +kernel
theorem dX3_startIdleTimeAgain_12 : decode cX3_startIdleTimeAgain 12 = .ok (.getfield 44, 3) := by decide +kernel
theorem dX3_startIdleTimeAgain_15 : decode cX3_startIdleTimeAgain 15 = .ok (.iastore, 1) := by decide +kernel
theorem dX3_startIdleTimeAgain_16 : decode cX3_startIdleTimeAgain 16 = .ok (.iload_n 2, 1) := by decide +kernel
theorem dX3_startIdleTimeAgain_17 : decode cX3_startIdleTimeAgain 17 = .ok (.ireturn, 1) := by decide +kernel
set_option maxRecDepth 20000 in
theorem ggX3_putHat_X3_coveredChairs : GoodIn wsX3_putHat wsX3_coveredChairs := goodIn_ca (goodIn_r _ [10, 4, 21, 22, 23, 24, 25, 26, 27, 28, 29, 30, 31, 32, 33, 34, 35] (by decide +kernel) (by decide +kernel)) (goodIn_sub (fun _ h => List.mem_cons_of_mem _ (List.mem_append_right _ h)) (by decide +kernel))
set_option maxRecDepth 20000 in
theorem gX3_putHat_X3_coveredChairs : GoodIn wsX3_putHat (wsV RX3 91 RX3 yX3_coveredChairs wsX3_coveredChairs) := goodIn_app (goodIn_of _ (by decide +kernel)) ggX3_putHat_X3_coveredChairs
set_option maxRecDepth 20000 in
theorem ggX3_putHat_X3_reach : GoodIn wsX3_putHat wsX3_reach := goodIn_r _ [13] (by decide +kernel) (by decide +kernel)
set_option maxRecDepth 20000 in
theorem gX3_putHat_X3_reach : GoodIn wsX3_putHat (va_wsS RX3 95 yX3_reach wsX3_reach) := goodIn_app (goodIn_of _ (by decide +kernel)) ggX3_putHat_X3_reach
set_option maxRecDepth 20000 in
theorem ggX3_putHat_J13_bitCount_95d88 : GoodIn wsX3_putHat wsJ13_bitCount_95d88 := goodIn_r _ [17, 18, 19, 20] (by decide +kernel) (by decide +kernel)
set_option maxRecDepth 20000 in
theorem gX3_putHat_J13_bitCount_95d88 : GoodIn wsX3_putHat (va_wsS RX3 82 yJ13_bitCount_95d88 wsJ13_bitCount_95d88) := goodIn_app (goodIn_of _ (by decide +kernel)) ggX3_putHat_J13_bitCount_95d88
theorem dX3_putHat_0 : decode cX3_putHat 0 = .ok (.aload_n 0, 1) := by decide +kernel
theorem dX3_putHat_1 : decode cX3_putHat 1 = .ok (.invokevirtual 91, 3) := by decide +kernel
theorem dX3_putHat_4 : decode cX3_putHat 4 = .ok (.lstore_n 3, 1) := by decide +kernel
theorem dX3_putHat_5 : decode cX3_putHat 5 = .ok (.aload_n 0, 1) := by decide +kernel
theorem dX3_putHat_6 : decode cX3_putHat 6 = .ok (.getfield 18, 3) := by decide +kernel
theorem dX3_putHat_9 : decode cX3_putHat 9 = .ok (.iload_n 1, 1) := by decide +kernel
theorem dX3_putHat_10 : decode cX3_putHat 10 = .ok (.iload_n 2, 1) := by decide +kernel
theorem dX3_putHat_11 : decode cX3_putHat 11 = .ok (.iastore, 1) := by decide +kernel
theorem dX3_putHat_12 : decode cX3_putHat 12 = .ok (.aload_n 0, 1) := by decide +kernel
theorem dX3_putHat_13 : decode cX3_putHat 13 = .ok (.getfield 21, 3) := by decide +kernel
theorem dX3_putHat_16 : decode cX3_putHat 16 = .ok (.iload_n 1, 1) := by decide +kernel
theorem dX3_putHat_17 : decode cX3_putHat 17 = .ok (.aload_n 0, 1) := by decide +kernel
theorem dX3_putHat_18 : decode cX3_putHat 18 = .ok (.getfield 44, 3) := by decide +kernel
theorem dX3_putHat_21 : decode cX3_putHat 21 = .ok (.iastore, 1) := by decide +kernel
theorem dX3_putHat_22 : decode cX3_putHat 22 = .ok (.aload_n 0, 1) := by decide +kernel
theorem dX3_putHat_23 : decode cX3_putHat 23 = .ok (.getfield 24, 3) := by decide +kernel
theorem dX3_putHat_26 : decode cX3_putHat 26 = .ok (.iload_n 1, 1) := by decide +kernel
theorem dX3_putHat_27 : decode cX3_putHat 27 = .ok (.lconst 1, 1) := by decide +kernel
theorem dX3_putHat_28 : decode cX3_putHat 28 = .ok (.iload_n 2, 1) := by decide +kernel
theorem dX3_putHat_29 : decode cX3_putHat 29 = .ok (.lshl, 1) := by decide +kernel
theorem dX3_putHat_30 : decode cX3_putHat 30 = .ok (.iload_n 2, 1) := by decide +kernel
theorem dX3_putHat_31 : decode cX3_putHat 31 = .ok (.iconst (-1), 1) := by decide +kernel
theorem dX3_putHat_32 : decode cX3_putHat 32 = .ok (.aload_n 0, 1) := by decide +kernel
theorem dX3_putHat_33 : decode cX3_putHat 33 = .ok (.getfield 15, 3) := by decide +kernel
theorem dX3_putHat_36 : decode cX3_putHat 36 = .ok (.iload_n 1, 1) := by decide +kernel
theorem dX3_putHat_37 : decode cX3_putHat 37 = .ok (.iaload, 1) := by decide +kernel
theorem dX3_putHat_38 : decode cX3_putHat 38 = .ok (.lload_n 3, 1) := by decide +kernel
theorem dX3_putHat_39 : decode cX3_putHat 39 = .ok (.invokestatic 95, 3) := by decide +kernel
theorem dX3_putHat_42 : decode cX3_putHat 42 = .ok (.lor, 1) := by decide +kernel
theorem dX3_putHat_43 : decode cX3_putHat 43 = .ok (.iload_n 2, 1) := by decide +kernel
theorem dX3_putHat_44 : decode cX3_putHat 44 = .ok (.iconst 1, 1) := by decide +kernel
theorem dX3_putHat_45 : decode cX3_putHat 45 = .ok (.aload_n 0, 1) := by decide +kernel
theorem dX3_putHat_46 : decode cX3_putHat 46 = .ok (.getfield 15, 3) := by decide +kernel
theorem dX3_putHat_49 : decode cX3_putHat 49 = .ok (.iload_n 1, 1) := by decide +kernel
theorem dX3_putHat_50 : decode cX3_putHat 50 = .ok (.iaload, 1) := by decide +kernel
theorem dX3_putHat_51 : decode cX3_putHat 51 = .ok (.lload_n 3, 1) := by decide +kernel
theorem dX3_putHat_52 : decode cX3_putHat 52 = .ok (.invokestatic 95, 3) := by decide +kernel
theorem dX3_putHat_55 : decode cX3_putHat 55 = .ok (.lor, 1) := by decide +kernel
theorem dX3_putHat_56 : decode cX3_putHat 56 = .ok (.lastore, 1) := by decide +kernel
theorem dX3_putHat_57 : decode cX3_putHat 57 = .ok (.aload_n 0, 1) := by decide +kernel
theorem dX3_putHat_58 : decode cX3_putHat 58 = .ok (.getfield 24, 3) := by decide +kernel
theorem dX3_putHat_61 : decode cX3_putHat 61 = .ok (.iload_n 1, 1) := by decide +kernel
theorem dX3_putHat_62 : decode cX3_putHat 62 = .ok (.laload, 1) := by decide +kernel
theorem dX3_putHat_63 : decode cX3_putHat 63 = .ok (.invokestatic 82, 3) := by decide +kernel
theorem dX3_putHat_66 : decode cX3_putHat 66 = .ok (.ireturn, 1) := by decide +kernel
theorem dX3_reach_0 : decode cX3_reach 0 = .ok (.lconst 0, 1) := by decide +kernel
theorem dX3_reach_1 : decode cX3_reach 1 = .ok (.lstore 5, 2) := by decide +kernel
theorem dX3_reach_3 : decode cX3_reach 3 = .ok (.iload_n 0, 1) := by decide +kernel
theorem dX3_reach_4 : decode cX3_reach 4 = .ok (.bipush 10, 2) := by decide +kernel
theorem dX3_reach_6 : decode cX3_reach 6 = .ok (.irem, 1) := by decide +kernel
theorem dX3_reach_7 : decode cX3_reach 7 = .ok (.istore 7, 2) := by decide +kernel
theorem dX3_reach_9 : decode cX3_reach 9 = .ok (.iconst 1, 1) := by decide +kernel
theorem dX3_reach_10 : decode cX3_reach 10 = .ok (.istore 8, 2) := by decide +kernel
theorem dX3_reach_12 : decode cX3_reach 12 = .ok (.iload 8, 2) := by decide +kernel
theorem dX3_reach_14 : decode cX3_reach 14 = .ok (.iload_n 2, 1) := by decide +kernel
theorem dX3_reach_15 : decode cX3_reach 15 = .ok (.if_icmp .gt 62, 3) := by decide +kernel
theorem dX3_reach_18 : decode cX3_reach 18 = .ok (.iload 7, 2) := by decide +kernel
theorem dX3_reach_20 : decode cX3_reach 20 = .ok (.iload 8, 2) := by decide +kernel
theorem dX3_reach_22 : decode cX3_reach 22 = .ok (.iload_n 1, 1) := by decide +kernel
theorem dX3_reach_23 : decode cX3_reach 23 = .ok (.imul, 1) := by decide +kernel
theorem dX3_reach_24 : decode cX3_reach 24 = .ok (.iadd, 1) := by decide +kernel
theorem dX3_reach_25 : decode cX3_reach 25 = .ok (.istore 9, 2) := by decide +kernel
theorem dX3_reach_27 : decode cX3_reach 27 = .ok (.iload 9, 2) := by decide +kernel
theorem dX3_reach_29 : decode cX3_reach 29 = .ok (.ifCond .lt 10, 3) := by decide +kernel
theorem dX3_reach_32 : decode cX3_reach 32 = .ok (.iload 9, 2) := by decide +kernel
theorem dX3_reach_34 : decode cX3_reach 34 = .ok (.bipush 10, 2) := by decide +kernel
theorem dX3_reach_36 : decode cX3_reach 36 = .ok (.if_icmp .lt 6, 3) := by decide +kernel
theorem dX3_reach_39 : decode cX3_reach 39 = .ok (.lload 5, 2) := by decide +kernel
theorem dX3_reach_41 : decode cX3_reach 41 = .ok (.lreturn, 1) := by decide +kernel
theorem dX3_reach_42 : decode cX3_reach 42 = .ok (.lconst 1, 1) := by decide +kernel
theorem dX3_reach_43 : decode cX3_reach 43 = .ok (.iload_n 0, 1) := by decide +kernel
theorem dX3_reach_44 : decode cX3_reach 44 = .ok (.iload 8, 2) := by decide +kernel
theorem dX3_reach_46 : decode cX3_reach 46 = .ok (.iload_n 1, 1) := by decide +kernel
theorem dX3_reach_47 : decode cX3_reach 47 = .ok (.imul, 1) := by decide +kernel
theorem dX3_reach_48 : decode cX3_reach 48 = .ok (.iadd, 1) := by decide +kernel
theorem dX3_reach_49 : decode cX3_reach 49 = .ok (.lshl, 1) := by decide +kernel
theorem dX3_reach_50 : decode cX3_reach 50 = .ok (.lstore 10, 2) := by decide +kernel
theorem dX3_reach_52 : decode cX3_reach 52 = .ok (.lload_n 3, 1) := by decide +kernel
theorem dX3_reach_53 : decode cX3_reach 53 = .ok (.lload 10, 2) := by decide +kernel
theorem dX3_reach_55 : decode cX3_reach 55 = .ok (.land, 1) := by decide +kernel
theorem dX3_reach_56 : decode cX3_reach 56 = .ok (.lconst 0, 1) := by decide +kernel
theorem dX3_reach_57 : decode cX3_reach 57 = .ok (.lcmp, 1) := by decide +kernel
theorem dX3_reach_58 : decode cX3_reach 58 = .ok (.ifCond .eq 6, 3) := by decide +kernel
theorem dX3_reach_61 : decode cX3_reach 61 = .ok (.lload 5, 2) := by decide +kernel
theorem dX3_reach_63 : decode cX3_reach 63 = .ok (.lreturn, 1) := by decide +kernel
theorem dX3_reach_64 : decode cX3_reach 64 = .ok (.lload 5, 2) := by decide +kernel
theorem dX3_reach_66 : decode cX3_reach 66 = .ok (.lload 10, 2) := by decide +kernel
theorem dX3_reach_68 : decode cX3_reach 68 = .ok (.lor, 1) := by decide +kernel
theorem dX3_reach_69 : decode cX3_reach 69 = .ok (.lstore 5, 2) := by decide +kernel
theorem dX3_reach_71 : decode cX3_reach 71 = .ok (.iinc 8 1, 3) := by decide +kernel
theorem dX3_reach_74 : decode cX3_reach 74 = .ok (.goto (-62), 3) := by decide +kernel
theorem dX3_reach_77 : decode cX3_reach 77 = .ok (.lload 5, 2) := by decide +kernel
theorem dX3_reach_79 : decode cX3_reach 79 = .ok (.lreturn, 1) := by decide +kernel
theorem dX3_liftHat_0 : decode cX3_liftHat 0 = .ok (.aload_n 0, 1) := by decide +kernel
theorem dX3_liftHat_1 : decode cX3_liftHat 1 = .ok (.getfield 24, 3) := by decide +kernel
theorem dX3_liftHat_4 : decode cX3_liftHat 4 = .ok (.iload_n 1, 1) := by decide +kernel
theorem dX3_liftHat_5 : decode cX3_liftHat 5 = .ok (.laload, 1) := by decide +kernel
theorem dX3_liftHat_6 : decode cX3_liftHat 6 = .ok (.lstore_n 2, 1) := by decide +kernel
theorem dX3_liftHat_7 : decode cX3_liftHat 7 = .ok (.aload_n 0, 1) := by decide +kernel
theorem dX3_liftHat_8 : decode cX3_liftHat 8 = .ok (.getfield 24, 3) := by decide +kernel
theorem dX3_liftHat_11 : decode cX3_liftHat 11 = .ok (.iload_n 1, 1) := by decide +kernel
theorem dX3_liftHat_12 : decode cX3_liftHat 12 = .ok (.lconst 0, 1) := by decide +kernel
theorem dX3_liftHat_13 : decode cX3_liftHat 13 = .ok (.lastore, 1) := by decide +kernel
theorem dX3_liftHat_14 : decode cX3_liftHat 14 = .ok (.aload_n 0, 1) := by decide +kernel
theorem dX3_liftHat_15 : decode cX3_liftHat 15 = .ok (.getfield 18, 3) := by decide +kernel
theorem dX3_liftHat_18 : decode cX3_liftHat 18 = .ok (.iload_n 1, 1) := by decide +kernel
theorem dX3_liftHat_19 : decode cX3_liftHat 19 = .ok (.iconst (-1), 1) := by decide +kernel
theorem dX3_liftHat_20 : decode cX3_liftHat 20 = .ok (.iastore, 1) := by decide +kernel
theorem dX3_liftHat_21 : decode cX3_liftHat 21 = .ok (.lload_n 2, 1) := by decide +kernel
theorem dX3_liftHat_22 : decode cX3_liftHat 22 = .ok (.lreturn, 1) := by decide +kernel
set_option maxRecDepth 20000 in
theorem ggX3_giveChairsBack_X3_liftHat : GoodIn wsX3_giveChairsBack wsX3_liftHat := goodIn_ca (goodIn_r _ [5, 6, 7, 57, 58, 59, 60, 61, 62, 63, 64, 65, 66, 67, 68, 69, 70, 71] (by decide +kernel) (by decide +kernel)) (goodIn_sub (fun _ h => List.mem_cons_of_mem _ (List.mem_append_right _ h)) (by decide +kernel))
set_option maxRecDepth 20000 in
theorem gX3_giveChairsBack_X3_liftHat : GoodIn wsX3_giveChairsBack (wsV RX3 99 RX3 yX3_liftHat wsX3_liftHat) := goodIn_app (goodIn_of _ (by decide +kernel)) ggX3_giveChairsBack_X3_liftHat
set_option maxRecDepth 20000 in
theorem ggX3_giveChairsBack_X3_offerChairs : GoodIn wsX3_giveChairsBack wsX3_offerChairs := goodIn_ca (goodIn_r _ [11, 12, 13, 14, 4, 15, 6, 16, 17, 18, 19, 20, 21, 22, 23, 24, 25, 26, 27, 28, 29, 30, 31, 32, 33, 34, 35, 7, 36, 37, 38, 39, 40, 41, 42, 43, 44, 45, 46, 47, 48, 49, 50, 51, 52, 53, 54, 55, 56, 57, 58, 59, 60, 61, 62, 63, 64, 65, 66, 67, 68, 69, 70, 71] (by decide +kernel) (by decide +kernel)) (goodIn_sub (fun _ h => List.mem_cons_of_mem _ (List.mem_append_right _ h)) (by decide +kernel))
set_option maxRecDepth 20000 in
theorem gX3_giveChairsBack_X3_offerChairs : GoodIn wsX3_giveChairsBack (wsV RX3 103 RX3 yX3_offerChairs wsX3_offerChairs) := goodIn_app (goodIn_of _ (by decide +kernel)) ggX3_giveChairsBack_X3_offerChairs
set_option maxRecDepth 20000 in
theorem ggX3_giveChairsBack_J13_bitCount_95d88 : GoodIn wsX3_giveChairsBack wsJ13_bitCount_95d88 := goodIn_r _ [53, 54, 55, 56] (by decide +kernel) (by decide +kernel)
set_option maxRecDepth 20000 in
theorem gX3_giveChairsBack_J13_bitCount_95d88 : GoodIn wsX3_giveChairsBack (va_wsS RX3 82 yJ13_bitCount_95d88 wsJ13_bitCount_95d88) := goodIn_app (goodIn_of _ (by decide +kernel)) ggX3_giveChairsBack_J13_bitCount_95d88
theorem dX3_giveChairsBack_0 : decode cX3_giveChairsBack 0 = .ok (.aload_n 0, 1) := by decide +kernel
theorem dX3_giveChairsBack_1 : decode cX3_giveChairsBack 1 = .ok (.iload_n 1, 1) := by decide +kernel
theorem dX3_giveChairsBack_2 : decode cX3_giveChairsBack 2 = .ok (.invokevirtual 99, 3) := by decide +kernel
theorem dX3_giveChairsBack_5 : decode cX3_giveChairsBack 5 = .ok (.lstore_n 2, 1) := by decide +kernel
theorem dX3_giveChairsBack_6 : decode cX3_giveChairsBack 6 = .ok (.aload_n 0, 1) := by decide +kernel
theorem dX3_giveChairsBack_7 : decode cX3_giveChairsBack 7 = .ok (.lload_n 2, 1) := by decide +kernel
theorem dX3_giveChairsBack_8 : decode cX3_giveChairsBack 8 = .ok (.invokevirtual 103, 3) := by decide +kernel
theorem dX3_giveChairsBack_11 : decode cX3_giveChairsBack 11 = .ok (.lload_n 2, 1) := by decide +kernel
theorem dX3_giveChairsBack_12 : decode cX3_giveChairsBack 12 = .ok (.invokestatic 82, 3) := by decide +kernel
theorem dX3_giveChairsBack_15 : decode cX3_giveChairsBack 15 = .ok (.ireturn, 1) := by decide +kernel
set_option maxRecDepth 20000 in
theorem ggX3_putCoat_X3_coatsOn : GoodIn wsX3_putCoat wsX3_coatsOn := goodIn_ca (goodIn_r _ [9, 4, 10, 11, 12, 13, 14, 15, 16, 17, 18, 19, 20, 21, 22, 23, 24] (by decide +kernel) (by decide +kernel)) (goodIn_sub (fun _ h => List.mem_cons_of_mem _ (List.mem_append_right _ h)) (by decide +kernel))
set_option maxRecDepth 20000 in
theorem gX3_putCoat_X3_coatsOn : GoodIn wsX3_putCoat (wsV RX3 79 RX3 yX3_coatsOn wsX3_coatsOn) := goodIn_app (goodIn_of _ (by decide +kernel)) ggX3_putCoat_X3_coatsOn
theorem dX3_putCoat_0 : decode cX3_putCoat 0 = .ok (.aload_n 0, 1) := by decide +kernel
theorem dX3_putCoat_1 : decode cX3_putCoat 1 = .ok (.iload_n 2, 1) := by decide +kernel
theorem dX3_putCoat_2 : decode cX3_putCoat 2 = .ok (.invokevirtual 79, 3) := by decide +kernel
theorem dX3_putCoat_5 : decode cX3_putCoat 5 = .ok (.istore_n 3, 1) := by decide +kernel
theorem dX3_putCoat_6 : decode cX3_putCoat 6 = .ok (.aload_n 0, 1) := by decide +kernel
theorem dX3_putCoat_7 : decode cX3_putCoat 7 = .ok (.dup, 1) := by decide +kernel
theorem dX3_putCoat_8 : decode cX3_putCoat 8 = .ok (.getfield 37, 3) := by decide +kernel
theorem dX3_putCoat_11 : decode cX3_putCoat 11 = .ok (.iconst 1, 1) := by decide +kernel
theorem dX3_putCoat_12 : decode cX3_putCoat 12 = .ok (.iadd, 1) := by decide +kernel
theorem dX3_putCoat_13 : decode cX3_putCoat 13 = .ok (.putfield 37, 3) := by decide +kernel
theorem dX3_putCoat_16 : decode cX3_putCoat 16 = .ok (.aload_n 0, 1) := by decide +kernel
theorem dX3_putCoat_17 : decode cX3_putCoat 17 = .ok (.getfield 34, 3) := by decide +kernel
theorem dX3_putCoat_20 : decode cX3_putCoat 20 = .ok (.iload_n 1, 1) := by decide +kernel
theorem dX3_putCoat_21 : decode cX3_putCoat 21 = .ok (.aload_n 0, 1) := by decide +kernel
theorem dX3_putCoat_22 : decode cX3_putCoat 22 = .ok (.getfield 37, 3) := by decide +kernel
theorem dX3_putCoat_25 : decode cX3_putCoat 25 = .ok (.iastore, 1) := by decide +kernel
theorem dX3_putCoat_26 : decode cX3_putCoat 26 = .ok (.aload_n 0, 1) := by decide +kernel
theorem dX3_putCoat_27 : decode cX3_putCoat 27 = .ok (.getfield 31, 3) := by decide +kernel
theorem dX3_putCoat_30 : decode cX3_putCoat 30 = .ok (.iload_n 1, 1) := by decide +kernel
theorem dX3_putCoat_31 : decode cX3_putCoat 31 = .ok (.iload_n 3, 1) := by decide +kernel
theorem dX3_putCoat_32 : decode cX3_putCoat 32 = .ok (.iastore, 1) := by decide +kernel
theorem dX3_putCoat_33 : decode cX3_putCoat 33 = .ok (.aload_n 0, 1) := by decide +kernel
theorem dX3_putCoat_34 : decode cX3_putCoat 34 = .ok (.getfield 28, 3) := by decide +kernel
theorem dX3_putCoat_37 : decode cX3_putCoat 37 = .ok (.iload_n 1, 1) := by decide +kernel
theorem dX3_putCoat_38 : decode cX3_putCoat 38 = .ok (.iload_n 2, 1) := by decide +kernel
theorem dX3_putCoat_39 : decode cX3_putCoat 39 = .ok (.iastore, 1) := by decide +kernel
theorem dX3_putCoat_40 : decode cX3_putCoat 40 = .ok (.iload_n 3, 1) := by decide +kernel
theorem dX3_putCoat_41 : decode cX3_putCoat 41 = .ok (.ireturn, 1) := by decide +kernel
theorem dX3_pullCoat_0 : decode cX3_pullCoat 0 = .ok (.aload_n 0, 1) := by decide +kernel
theorem dX3_pullCoat_1 : decode cX3_pullCoat 1 = .ok (.getfield 28, 3) := by decide +kernel
theorem dX3_pullCoat_4 : decode cX3_pullCoat 4 = .ok (.iload_n 1, 1) := by decide +kernel
theorem dX3_pullCoat_5 : decode cX3_pullCoat 5 = .ok (.iaload, 1) := by decide +kernel
theorem dX3_pullCoat_6 : decode cX3_pullCoat 6 = .ok (.istore_n 2, 1) := by decide +kernel
theorem dX3_pullCoat_7 : decode cX3_pullCoat 7 = .ok (.aload_n 0, 1) := by decide +kernel
theorem dX3_pullCoat_8 : decode cX3_pullCoat 8 = .ok (.getfield 28, 3) := by decide +kernel
theorem dX3_pullCoat_11 : decode cX3_pullCoat 11 = .ok (.iload_n 1, 1) := by decide +kernel
theorem dX3_pullCoat_12 : decode cX3_pullCoat 12 = .ok (.iconst (-1), 1) := by decide +kernel
theorem dX3_pullCoat_13 : decode cX3_pullCoat 13 = .ok (.iastore, 1) := by decide +kernel
theorem dX3_pullCoat_14 : decode cX3_pullCoat 14 = .ok (.iconst 0, 1) := by decide +kernel
theorem dX3_pullCoat_15 : decode cX3_pullCoat 15 = .ok (.istore_n 3, 1) := by decide +kernel
theorem dX3_pullCoat_16 : decode cX3_pullCoat 16 = .ok (.iload_n 3, 1) := by decide +kernel
theorem dX3_pullCoat_17 : decode cX3_pullCoat 17 = .ok (.bipush 8, 2) := by decide +kernel
theorem dX3_pullCoat_19 : decode cX3_pullCoat 19 = .ok (.if_icmp .ge 44, 3) := by decide +kernel
theorem dX3_pullCoat_22 : decode cX3_pullCoat 22 = .ok (.aload_n 0, 1) := by decide +kernel
theorem dX3_pullCoat_23 : decode cX3_pullCoat 23 = .ok (.getfield 28, 3) := by decide +kernel
theorem dX3_pullCoat_26 : decode cX3_pullCoat 26 = .ok (.iload_n 3, 1) := by decide +kernel
theorem dX3_pullCoat_27 : decode cX3_pullCoat 27 = .ok (.iaload, 1) := by decide +kernel
theorem dX3_pullCoat_28 : decode cX3_pullCoat 28 = .ok (.iload_n 2, 1) := by decide +kernel
theorem dX3_pullCoat_29 : decode cX3_pullCoat 29 = .ok (.if_icmp .ne 28, 3) := by decide +kernel
theorem dX3_pullCoat_32 : decode cX3_pullCoat 32 = .ok (.aload_n 0, 1) := by decide +kernel
theorem dX3_pullCoat_33 : decode cX3_pullCoat 33 = .ok (.getfield 31, 3) := by decide +kernel
theorem dX3_pullCoat_36 : decode cX3_pullCoat 36 = .ok (.iload_n 3, 1) := by decide +kernel
theorem dX3_pullCoat_37 : decode cX3_pullCoat 37 = .ok (.iaload, 1) := by decide +kernel
theorem dX3_pullCoat_38 : decode cX3_pullCoat 38 = .ok (.aload_n 0, 1) := by decide +kernel
theorem dX3_pullCoat_39 : decode cX3_pullCoat 39 = .ok (.getfield 31, 3) := by decide +kernel
theorem dX3_pullCoat_42 : decode cX3_pullCoat 42 = .ok (.iload_n 1, 1) := by decide +kernel
theorem dX3_pullCoat_43 : decode cX3_pullCoat 43 = .ok (.iaload, 1) := by decide +kernel
theorem dX3_pullCoat_44 : decode cX3_pullCoat 44 = .ok (.if_icmp .le 13, 3) := by decide +kernel
theorem dX3_pullCoat_47 : decode cX3_pullCoat 47 = .ok (.aload_n 0, 1) := by decide +kernel
theorem dX3_pullCoat_48 : decode cX3_pullCoat 48 = .ok (.getfield 31, 3) := by decide +kernel
theorem dX3_pullCoat_51 : decode cX3_pullCoat 51 = .ok (.iload_n 3, 1) := by decide +kernel
theorem dX3_pullCoat_52 : decode cX3_pullCoat 52 = .ok (.dup2, 1) := by decide +kernel
theorem dX3_pullCoat_53 : decode cX3_pullCoat 53 = .ok (.iaload, 1) := by decide +kernel
theorem dX3_pullCoat_54 : decode cX3_pullCoat 54 = .ok (.iconst 1, 1) := by decide +kernel
theorem dX3_pullCoat_55 : decode cX3_pullCoat 55 = .ok (.isub, 1) := by decide +kernel
theorem dX3_pullCoat_56 : decode cX3_pullCoat 56 = .ok (.iastore, 1) := by decide +kernel
theorem dX3_pullCoat_57 : decode cX3_pullCoat 57 = .ok (.iinc 3 1, 3) := by decide +kernel
theorem dX3_pullCoat_60 : decode cX3_pullCoat 60 = .ok (.goto (-44), 3) := by decide +kernel
theorem dX3_pullCoat_63 : decode cX3_pullCoat 63 = .ok (.iload_n 2, 1) := by decide +kernel
theorem dX3_pullCoat_64 : decode cX3_pullCoat 64 = .ok (.ireturn, 1) := by decide +kernel
theorem dX3_coatsOn_0 : decode cX3_coatsOn 0 = .ok (.iconst 0, 1) := by decide +kernel
theorem dX3_coatsOn_1 : decode cX3_coatsOn 1 = .ok (.istore_n 2, 1) := by decide +kernel
theorem dX3_coatsOn_2 : decode cX3_coatsOn 2 = .ok (.iconst 0, 1) := by decide +kernel
theorem dX3_coatsOn_3 : decode cX3_coatsOn 3 = .ok (.istore_n 3, 1) := by decide +kernel
theorem dX3_coatsOn_4 : decode cX3_coatsOn 4 = .ok (.iload_n 3, 1) := by decide +kernel
theorem dX3_coatsOn_5 : decode cX3_coatsOn 5 = .ok (.bipush 8, 2) := by decide +kernel
theorem dX3_coatsOn_7 : decode cX3_coatsOn 7 = .ok (.if_icmp .ge 22, 3) := by decide +kernel
theorem dX3_coatsOn_10 : decode cX3_coatsOn 10 = .ok (.aload_n 0, 1) := by decide +kernel
theorem dX3_coatsOn_11 : decode cX3_coatsOn 11 = .ok (.getfield 28, 3) := by decide +kernel
theorem dX3_coatsOn_14 : decode cX3_coatsOn 14 = .ok (.iload_n 3, 1) := by decide +kernel
theorem dX3_coatsOn_15 : decode cX3_coatsOn 15 = .ok (.iaload, 1) := by decide +kernel
theorem dX3_coatsOn_16 : decode cX3_coatsOn 16 = .ok (.iload_n 1, 1) := by decide +kernel
theorem dX3_coatsOn_17 : decode cX3_coatsOn 17 = .ok (.if_icmp .ne 6, 3) := by decide +kernel
theorem dX3_coatsOn_20 : decode cX3_coatsOn 20 = .ok (.iinc 2 1, 3) := by decide +kernel
theorem dX3_coatsOn_23 : decode cX3_coatsOn 23 = .ok (.iinc 3 1, 3) := by decide +kernel
theorem dX3_coatsOn_26 : decode cX3_coatsOn 26 = .ok (.goto (-22), 3) := by decide +kernel
theorem dX3_coatsOn_29 : decode cX3_coatsOn 29 = .ok (.iload_n 2, 1) := by decide +kernel
theorem dX3_coatsOn_30 : decode cX3_coatsOn 30 = .ok (.ireturn, 1) := by decide +kernel
theorem dX3_ownerAt_0 : decode cX3_ownerAt 0 = .ok (.iconst 0, 1) := by decide +kernel
theorem dX3_ownerAt_1 : decode cX3_ownerAt 1 = .ok (.istore_n 3, 1) := by decide +kernel
theorem dX3_ownerAt_2 : decode cX3_ownerAt 2 = .ok (.iload_n 3, 1) := by decide +kernel
theorem dX3_ownerAt_3 : decode cX3_ownerAt 3 = .ok (.bipush 8, 2) := by decide +kernel
theorem dX3_ownerAt_5 : decode cX3_ownerAt 5 = .ok (.if_icmp .ge 31, 3) := by decide +kernel
theorem dX3_ownerAt_8 : decode cX3_ownerAt 8 = .ok (.aload_n 0, 1) := by decide +kernel
theorem dX3_ownerAt_9 : decode cX3_ownerAt 9 = .ok (.getfield 28, 3) := by decide +kernel
theorem dX3_ownerAt_12 : decode cX3_ownerAt 12 = .ok (.iload_n 3, 1) := by decide +kernel
theorem dX3_ownerAt_13 : decode cX3_ownerAt 13 = .ok (.iaload, 1) := by decide +kernel
theorem dX3_ownerAt_14 : decode cX3_ownerAt 14 = .ok (.iload_n 1, 1) := by decide +kernel
theorem dX3_ownerAt_15 : decode cX3_ownerAt 15 = .ok (.if_icmp .ne 15, 3) := by decide +kernel
theorem dX3_ownerAt_18 : decode cX3_ownerAt 18 = .ok (.aload_n 0, 1) := by decide +kernel
theorem dX3_ownerAt_19 : decode cX3_ownerAt 19 = .ok (.getfield 31, 3) := by decide +kernel
theorem dX3_ownerAt_22 : decode cX3_ownerAt 22 = .ok (.iload_n 3, 1) := by decide +kernel
theorem dX3_ownerAt_23 : decode cX3_ownerAt 23 = .ok (.iaload, 1) := by decide +kernel
theorem dX3_ownerAt_24 : decode cX3_ownerAt 24 = .ok (.iload_n 2, 1) := by decide +kernel
theorem dX3_ownerAt_25 : decode cX3_ownerAt 25 = .ok (.if_icmp .ne 5, 3) := by decide +kernel
theorem dX3_ownerAt_28 : decode cX3_ownerAt 28 = .ok (.iload_n 3, 1) := by decide +kernel
theorem dX3_ownerAt_29 : decode cX3_ownerAt 29 = .ok (.ireturn, 1) := by decide +kernel
theorem dX3_ownerAt_30 : decode cX3_ownerAt 30 = .ok (.iinc 3 1, 3) := by decide +kernel
theorem dX3_ownerAt_33 : decode cX3_ownerAt 33 = .ok (.goto (-31), 3) := by decide +kernel
theorem dX3_ownerAt_36 : decode cX3_ownerAt 36 = .ok (.iconst (-1), 1) := by decide +kernel
theorem dX3_ownerAt_37 : decode cX3_ownerAt 37 = .ok (.ireturn, 1) := by decide +kernel
set_option maxRecDepth 20000 in
theorem ggX3_claimantByQueue_X3_ownerAt : GoodIn wsX3_claimantByQueue wsX3_ownerAt := goodIn_ca (goodIn_r _ [5, 6, 7, 13, 14, 15, 16, 17, 18, 19, 20, 21, 22, 23, 24, 25, 26, 27] (by decide +kernel) (by decide +kernel)) (goodIn_sub (fun _ h => List.mem_cons_of_mem _ (List.mem_append_right _ h)) (by decide +kernel))
set_option maxRecDepth 20000 in
theorem gX3_claimantByQueue_X3_ownerAt : GoodIn wsX3_claimantByQueue (wsV RX3 107 RX3 yX3_ownerAt wsX3_ownerAt) := goodIn_app (goodIn_of _ (by decide +kernel)) ggX3_claimantByQueue_X3_ownerAt
set_option maxRecDepth 20000 in
theorem ggX3_claimantByQueue_X3_hatIsPlaced : GoodIn wsX3_claimantByQueue wsX3_hatIsPlaced := goodIn_ca (goodIn_r _ [11, 12, 13, 14, 15, 16, 17, 18, 19, 20, 21, 22, 23, 24, 25, 26, 27] (by decide +kernel) (by decide +kernel)) (goodIn_sub (fun _ h => List.mem_cons_of_mem _ (List.mem_append_right _ h)) (by decide +kernel))
set_option maxRecDepth 20000 in
theorem gX3_claimantByQueue_X3_hatIsPlaced : GoodIn wsX3_claimantByQueue (wsV RX3 72 RX3 yX3_hatIsPlaced wsX3_hatIsPlaced) := goodIn_app (goodIn_of _ (by decide +kernel)) ggX3_claimantByQueue_X3_hatIsPlaced
theorem dX3_claimantByQueue_0 : decode cX3_claimantByQueue 0 = .ok (.iconst 0, 1) := by decide +kernel
theorem dX3_claimantByQueue_1 : decode cX3_claimantByQueue 1 = .ok (.istore_n 2, 1) := by decide +kernel
theorem dX3_claimantByQueue_2 : decode cX3_claimantByQueue 2 = .ok (.iload_n 2, 1) := by decide +kernel
theorem dX3_claimantByQueue_3 : decode cX3_claimantByQueue 3 = .ok (.iconst 3, 1) := by decide +kernel
theorem dX3_claimantByQueue_4 : decode cX3_claimantByQueue 4 = .ok (.if_icmp .ge 31, 3) := by decide +kernel
theorem dX3_claimantByQueue_7 : decode cX3_claimantByQueue 7 = .ok (.aload_n 0, 1) := by decide +kernel
theorem dX3_claimantByQueue_8 : decode cX3_claimantByQueue 8 = .ok (.iload_n 1, 1) := by decide +kernel
theorem dX3_claimantByQueue_9 : decode cX3_claimantByQueue 9 = .ok (.iload_n 2, 1) := by decide +kernel
theorem dX3_claimantByQueue_10 : decode cX3_claimantByQueue 10 = .ok (.invokevirtual 107, 3) := by decide +kernel
theorem dX3_claimantByQueue_13 : decode cX3_claimantByQueue 13 = .ok (.istore_n 3, 1) := by decide +kernel
theorem dX3_claimantByQueue_14 : decode cX3_claimantByQueue 14 = .ok (.iload_n 3, 1) := by decide +kernel
theorem dX3_claimantByQueue_15 : decode cX3_claimantByQueue 15 = .ok (.iconst (-1), 1) := by decide +kernel
theorem dX3_claimantByQueue_16 : decode cX3_claimantByQueue 16 = .ok (.if_icmp .eq 13, 3) := by decide +kernel
theorem dX3_claimantByQueue_19 : decode cX3_claimantByQueue 19 = .ok (.aload_n 0, 1) := by decide +kernel
theorem dX3_claimantByQueue_20 : decode cX3_claimantByQueue 20 = .ok (.iload_n 3, 1) := by decide +kernel
theorem dX3_claimantByQueue_21 : decode cX3_claimantByQueue 21 = .ok (.invokevirtual 72, 3) := by decide +kernel
theorem dX3_claimantByQueue_24 : decode cX3_claimantByQueue 24 = .ok (.ifCond .ne 5, 3) := by decide +kernel
theorem dX3_claimantByQueue_27 : decode cX3_claimantByQueue 27 = .ok (.iload_n 3, 1) := by decide +kernel
theorem dX3_claimantByQueue_28 : decode cX3_claimantByQueue 28 = .ok (.ireturn, 1) := by decide +kernel
theorem dX3_claimantByQueue_29 : decode cX3_claimantByQueue 29 = .ok (.iinc 2 1, 3) := by decide +kernel
theorem dX3_claimantByQueue_32 : decode cX3_claimantByQueue 32 = .ok (.goto (-30), 3) := by decide +kernel
theorem dX3_claimantByQueue_35 : decode cX3_claimantByQueue 35 = .ok (.iconst (-1), 1) := by decide +kernel
theorem dX3_claimantByQueue_36 : decode cX3_claimantByQueue 36 = .ok (.ireturn, 1) := by decide +kernel
set_option maxRecDepth 20000 in
theorem ggX3_claimantByOrder_X3_hatIsPlaced : GoodIn wsX3_claimantByOrder wsX3_hatIsPlaced := goodIn_ca (goodIn_r _ [7, 8, 9, 10, 11, 12, 13, 14, 15, 16, 17, 18, 19, 20, 21, 22, 23] (by decide +kernel) (by decide +kernel)) (goodIn_sub (fun _ h => List.mem_cons_of_mem _ (List.mem_append_right _ h)) (by decide +kernel))
set_option maxRecDepth 20000 in
theorem gX3_claimantByOrder_X3_hatIsPlaced : GoodIn wsX3_claimantByOrder (wsV RX3 72 RX3 yX3_hatIsPlaced wsX3_hatIsPlaced) := goodIn_app (goodIn_of _ (by decide +kernel)) ggX3_claimantByOrder_X3_hatIsPlaced
theorem dX3_claimantByOrder_0 : decode cX3_claimantByOrder 0 = .ok (.iconst (-1), 1) := by decide +kernel
theorem dX3_claimantByOrder_1 : decode cX3_claimantByOrder 1 = .ok (.istore_n 2, 1) := by decide +kernel
theorem dX3_claimantByOrder_2 : decode cX3_claimantByOrder 2 = .ok (.iconst 0, 1) := by decide +kernel
theorem dX3_claimantByOrder_3 : decode cX3_claimantByOrder 3 = .ok (.istore_n 3, 1) := by decide +kernel
theorem dX3_claimantByOrder_4 : decode cX3_claimantByOrder 4 = .ok (.iload_n 3, 1) := by decide +kernel
theorem dX3_claimantByOrder_5 : decode cX3_claimantByOrder 5 = .ok (.bipush 8, 2) := by decide +kernel
theorem dX3_claimantByOrder_7 : decode cX3_claimantByOrder 7 = .ok (.if_icmp .ge 61, 3) := by decide +kernel
theorem dX3_claimantByOrder_10 : decode cX3_claimantByOrder 10 = .ok (.aload_n 0, 1) := by decide +kernel
theorem dX3_claimantByOrder_11 : decode cX3_claimantByOrder 11 = .ok (.getfield 28, 3) := by decide +kernel
theorem dX3_claimantByOrder_14 : decode cX3_claimantByOrder 14 = .ok (.iload_n 3, 1) := by decide +kernel
theorem dX3_claimantByOrder_15 : decode cX3_claimantByOrder 15 = .ok (.iaload, 1) := by decide +kernel
theorem dX3_claimantByOrder_16 : decode cX3_claimantByOrder 16 = .ok (.iload_n 1, 1) := by decide +kernel
theorem dX3_claimantByOrder_17 : decode cX3_claimantByOrder 17 = .ok (.if_icmp .ne 15, 3) := by decide +kernel
theorem dX3_claimantByOrder_20 : decode cX3_claimantByOrder 20 = .ok (.aload_n 0, 1) := by decide +kernel
theorem dX3_claimantByOrder_21 : decode cX3_claimantByOrder 21 = .ok (.iload_n 3, 1) := by decide +kernel
theorem dX3_claimantByOrder_22 : decode cX3_claimantByOrder 22 = .ok (.invokevirtual 72, 3) := by decide +kernel
theorem dX3_claimantByOrder_25 : decode cX3_claimantByOrder 25 = .ok (.ifCond .ne 7, 3) := by decide +kernel
theorem dX3_claimantByOrder_28 : decode cX3_claimantByOrder 28 = .ok (.iconst 1, 1) := by decide +kernel
theorem dX3_claimantByOrder_29 : decode cX3_claimantByOrder 29 = .ok (.goto 4, 3) := by decide +kernel
theorem dX3_claimantByOrder_32 : decode cX3_claimantByOrder 32 = .ok (.iconst 0, 1) := by decide +kernel
theorem dX3_claimantByOrder_33 : decode cX3_claimantByOrder 33 = .ok (.istore 4, 2) := by decide +kernel
theorem dX3_claimantByOrder_35 : decode cX3_claimantByOrder 35 = .ok (.iload 4, 2) := by decide +kernel
theorem dX3_claimantByOrder_37 : decode cX3_claimantByOrder 37 = .ok (.ifCond .eq 25, 3) := by decide +kernel
theorem dX3_claimantByOrder_40 : decode cX3_claimantByOrder 40 = .ok (.iload_n 2, 1) := by decide +kernel
theorem dX3_claimantByOrder_41 : decode cX3_claimantByOrder 41 = .ok (.iconst (-1), 1) := by decide +kernel
theorem dX3_claimantByOrder_42 : decode cX3_claimantByOrder 42 = .ok (.if_icmp .eq 18, 3) := by decide +kernel
theorem dX3_claimantByOrder_45 : decode cX3_claimantByOrder 45 = .ok (.aload_n 0, 1) := by decide +kernel
theorem dX3_claimantByOrder_46 : decode cX3_claimantByOrder 46 = .ok (.getfield 34, 3) := by decide +kernel
theorem dX3_claimantByOrder_49 : decode cX3_claimantByOrder 49 = .ok (.iload_n 3, 1) := by decide +kernel
theorem dX3_claimantByOrder_50 : decode cX3_claimantByOrder 50 = .ok (.iaload, 1) := by decide +kernel
theorem dX3_claimantByOrder_51 : decode cX3_claimantByOrder 51 = .ok (.aload_n 0, 1) := by decide +kernel
theorem dX3_claimantByOrder_52 : decode cX3_claimantByOrder 52 = .ok (.getfield 34, 3) := by decide +kernel
theorem dX3_claimantByOrder_55 : decode cX3_claimantByOrder 55 = .ok (.iload_n 2, 1) := by decide +kernel
theorem dX3_claimantByOrder_56 : decode cX3_claimantByOrder 56 = .ok (.iaload, 1) := by decide +kernel
theorem dX3_claimantByOrder_57 : decode cX3_claimantByOrder 57 = .ok (.if_icmp .ge 5, 3) := by decide +kernel
theorem dX3_claimantByOrder_60 : decode cX3_claimantByOrder 60 = .ok (.iload_n 3, 1) := by decide +kernel
theorem dX3_claimantByOrder_61 : decode cX3_claimantByOrder 61 = .ok (.istore_n 2, 1) := by decide +kernel
theorem dX3_claimantByOrder_62 : decode cX3_claimantByOrder 62 = .ok (.iinc 3 1, 3) := by decide +kernel
theorem dX3_claimantByOrder_65 : decode cX3_claimantByOrder 65 = .ok (.goto (-61), 3) := by decide +kernel
theorem dX3_claimantByOrder_68 : decode cX3_claimantByOrder 68 = .ok (.iload_n 2, 1) := by decide +kernel
theorem dX3_claimantByOrder_69 : decode cX3_claimantByOrder 69 = .ok (.ireturn, 1) := by decide +kernel
set_option maxRecDepth 20000 in
theorem ggX3_offerChairs_X3_covererAt : GoodIn wsX3_offerChairs wsX3_covererAt := goodIn_ca (goodIn_r _ [5, 6, 49, 50, 51, 52, 53, 54, 55, 56, 57, 58, 59, 60, 61, 62, 63] (by decide +kernel) (by decide +kernel)) (goodIn_sub (fun _ h => List.mem_cons_of_mem _ (List.mem_append_right _ h)) (by decide +kernel))
set_option maxRecDepth 20000 in
theorem gX3_offerChairs_X3_covererAt : GoodIn wsX3_offerChairs (wsV RX3 75 RX3 yX3_covererAt wsX3_covererAt) := goodIn_app (goodIn_of _ (by decide +kernel)) ggX3_offerChairs_X3_covererAt
set_option maxRecDepth 20000 in
theorem ggX3_offerChairs_X3_offerChair : GoodIn wsX3_offerChairs wsX3_offerChair := goodIn_ca (goodIn_r _ [10, 11, 12, 13, 14, 15, 4, 16, 17, 18, 19, 20, 21, 22, 23, 24, 25, 26, 27, 28, 29, 30, 31, 32, 33, 6, 34, 35, 36, 37, 38, 39, 40, 41, 42, 43, 44, 45, 46, 47, 48, 49, 50, 51, 52, 53, 54, 55, 56, 57, 58, 59, 60, 61, 62, 63] (by decide +kernel) (by decide +kernel)) (goodIn_sub (fun _ h => List.mem_cons_of_mem _ (List.mem_append_right _ h)) (by decide +kernel))
set_option maxRecDepth 20000 in
theorem gX3_offerChairs_X3_offerChair : GoodIn wsX3_offerChairs (wsV RX3 111 RX3 yX3_offerChair wsX3_offerChair) := goodIn_app (goodIn_of _ (by decide +kernel)) ggX3_offerChairs_X3_offerChair
theorem dX3_offerChairs_0 : decode cX3_offerChairs 0 = .ok (.iconst 0, 1) := by decide +kernel
theorem dX3_offerChairs_1 : decode cX3_offerChairs 1 = .ok (.istore_n 3, 1) := by decide +kernel
theorem dX3_offerChairs_2 : decode cX3_offerChairs 2 = .ok (.iload_n 3, 1) := by decide +kernel
theorem dX3_offerChairs_3 : decode cX3_offerChairs 3 = .ok (.bipush 40, 2) := by decide +kernel
theorem dX3_offerChairs_5 : decode cX3_offerChairs 5 = .ok (.if_icmp .ge 33, 3) := by decide +kernel
theorem dX3_offerChairs_8 : decode cX3_offerChairs 8 = .ok (.lload_n 1, 1) := by decide +kernel
theorem dX3_offerChairs_9 : decode cX3_offerChairs 9 = .ok (.iload_n 3, 1) := by decide +kernel
theorem dX3_offerChairs_10 : decode cX3_offerChairs 10 = .ok (.lushr, 1) := by decide +kernel
theorem dX3_offerChairs_11 : decode cX3_offerChairs 11 = .ok (.lconst 1, 1) := by decide +kernel
theorem dX3_offerChairs_12 : decode cX3_offerChairs 12 = .ok (.land, 1) := by decide +kernel
theorem dX3_offerChairs_13 : decode cX3_offerChairs 13 = .ok (.lconst 0, 1) := by decide +kernel
theorem dX3_offerChairs_14 : decode cX3_offerChairs 14 = .ok (.lcmp, 1) := by decide +kernel
theorem dX3_offerChairs_15 : decode cX3_offerChairs 15 = .ok (.ifCond .eq 17, 3) := by decide +kernel
theorem dX3_offerChairs_18 : decode cX3_offerChairs 18 = .ok (.aload_n 0, 1) := by decide +kernel
theorem dX3_offerChairs_19 : decode cX3_offerChairs 19 = .ok (.iload_n 3, 1) := by decide +kernel
theorem dX3_offerChairs_20 : decode cX3_offerChairs 20 = .ok (.invokevirtual 75, 3) := by decide +kernel
theorem dX3_offerChairs_23 : decode cX3_offerChairs 23 = .ok (.iconst (-1), 1) := by decide +kernel
theorem dX3_offerChairs_24 : decode cX3_offerChairs 24 = .ok (.if_icmp .ne 8, 3) := by decide +kernel
theorem dX3_offerChairs_27 : decode cX3_offerChairs 27 = .ok (.aload_n 0, 1) := by decide +kernel
theorem dX3_offerChairs_28 : decode cX3_offerChairs 28 = .ok (.iload_n 3, 1) := by decide +kernel
theorem dX3_offerChairs_29 : decode cX3_offerChairs 29 = .ok (.invokevirtual 111, 3) := by decide +kernel
theorem dX3_offerChairs_32 : decode cX3_offerChairs 32 = .ok (.iinc 3 1, 3) := by decide +kernel
theorem dX3_offerChairs_35 : decode cX3_offerChairs 35 = .ok (.goto (-33), 3) := by decide +kernel
theorem dX3_offerChairs_38 : decode cX3_offerChairs 38 = .ok (.return_, 1) := by decide +kernel
set_option maxRecDepth 20000 in
theorem ggX3_offerChair_X3_ownerAt : GoodIn wsX3_offerChair wsX3_ownerAt := goodIn_ca (goodIn_r _ [7, 8, 9, 41, 42, 43, 44, 45, 46, 47, 48, 49, 50, 51, 52, 53, 54, 55] (by decide +kernel) (by decide +kernel)) (goodIn_sub (fun _ h => List.mem_cons_of_mem _ (List.mem_append_right _ h)) (by decide +kernel))
set_option maxRecDepth 20000 in
theorem gX3_offerChair_X3_ownerAt : GoodIn wsX3_offerChair (wsV RX3 107 RX3 yX3_ownerAt wsX3_ownerAt) := goodIn_app (goodIn_of _ (by decide +kernel)) ggX3_offerChair_X3_ownerAt
set_option maxRecDepth 20000 in
theorem ggX3_offerChair_X3_pullCoat : GoodIn wsX3_offerChair wsX3_pullCoat := goodIn_ca (goodIn_r _ [13, 8, 9, 41, 42, 43, 44, 45, 46, 47, 48, 49, 50, 51, 52, 53, 54, 55] (by decide +kernel) (by decide +kernel)) (goodIn_sub (fun _ h => List.mem_cons_of_mem _ (List.mem_append_right _ h)) (by decide +kernel))
set_option maxRecDepth 20000 in
theorem gX3_offerChair_X3_pullCoat : GoodIn wsX3_offerChair (wsV RX3 115 RX3 yX3_pullCoat wsX3_pullCoat) := goodIn_app (goodIn_of _ (by decide +kernel)) ggX3_offerChair_X3_pullCoat
set_option maxRecDepth 20000 in
theorem ggX3_offerChair_X3_hatIsPlaced : GoodIn wsX3_offerChair wsX3_hatIsPlaced := goodIn_ca (goodIn_r _ [17, 18, 41, 42, 43, 44, 45, 46, 47, 48, 49, 50, 51, 52, 53, 54, 55] (by decide +kernel) (by decide +kernel)) (goodIn_sub (fun _ h => List.mem_cons_of_mem _ (List.mem_append_right _ h)) (by decide +kernel))
set_option maxRecDepth 20000 in
theorem gX3_offerChair_X3_hatIsPlaced : GoodIn wsX3_offerChair (wsV RX3 72 RX3 yX3_hatIsPlaced wsX3_hatIsPlaced) := goodIn_app (goodIn_of _ (by decide +kernel)) ggX3_offerChair_X3_hatIsPlaced
set_option maxRecDepth 20000 in
theorem ggX3_offerChair_X3_putHat : GoodIn wsX3_offerChair wsX3_putHat := goodIn_ca (goodIn_r _ [22, 18, 23, 24, 25, 26, 27, 28, 29, 6, 30, 31, 32, 33, 34, 35, 36, 37, 38, 39, 40, 41, 42, 43, 44, 45, 46, 47, 48, 49, 50, 51, 52, 53, 54, 55] (by decide +kernel) (by decide +kernel)) (goodIn_sub (fun _ h => List.mem_cons_of_mem _ (List.mem_append_right _ h)) (by decide +kernel))
set_option maxRecDepth 20000 in
theorem gX3_offerChair_X3_putHat : GoodIn wsX3_offerChair (wsV RX3 118 RX3 yX3_putHat wsX3_putHat) := goodIn_app (goodIn_of _ (by decide +kernel)) ggX3_offerChair_X3_putHat
theorem dX3_offerChair_0 : decode cX3_offerChair 0 = .ok (.iconst 0, 1) := by decide +kernel
theorem dX3_offerChair_1 : decode cX3_offerChair 1 = .ok (.istore_n 2, 1) := by decide +kernel
theorem dX3_offerChair_2 : decode cX3_offerChair 2 = .ok (.iload_n 2, 1) := by decide +kernel
theorem dX3_offerChair_3 : decode cX3_offerChair 3 = .ok (.iconst 3, 1) := by decide +kernel
theorem dX3_offerChair_4 : decode cX3_offerChair 4 = .ok (.if_icmp .ge 64, 3) := by decide +kernel
theorem dX3_offerChair_7 : decode cX3_offerChair 7 = .ok (.aload_n 0, 1) := by decide +kernel
theorem dX3_offerChair_8 : decode cX3_offerChair 8 = .ok (.iload_n 1, 1) := by decide +kernel
theorem dX3_offerChair_9 : decode cX3_offerChair 9 = .ok (.iconst 0, 1) := by decide +kernel
theorem dX3_offerChair_10 : decode cX3_offerChair 10 = .ok (.invokevirtual 107, 3) := by decide +kernel
theorem dX3_offerChair_13 : decode cX3_offerChair 13 = .ok (.istore_n 3, 1) := by decide +kernel
theorem dX3_offerChair_14 : decode cX3_offerChair 14 = .ok (.iload_n 3, 1) := by decide +kernel
theorem dX3_offerChair_15 : decode cX3_offerChair 15 = .ok (.iconst (-1), 1) := by decide +kernel
theorem dX3_offerChair_16 : decode cX3_offerChair 16 = .ok (.if_icmp .ne 4, 3) := by decide +kernel
theorem dX3_offerChair_19 : decode cX3_offerChair 19 = .ok (.return_, 1) := by decide +kernel
theorem dX3_offerChair_20 : decode cX3_offerChair 20 = .ok (.aload_n 0, 1) := by decide +kernel
theorem dX3_offerChair_21 : decode cX3_offerChair 21 = .ok (.iload_n 3, 1) := by decide +kernel
theorem dX3_offerChair_22 : decode cX3_offerChair 22 = .ok (.invokevirtual 115, 3) := by decide +kernel
theorem dX3_offerChair_25 : decode cX3_offerChair 25 = .ok (.pop, 1) := by decide +kernel
theorem dX3_offerChair_26 : decode cX3_offerChair 26 = .ok (.aload_n 0, 1) := by decide +kernel
theorem dX3_offerChair_27 : decode cX3_offerChair 27 = .ok (.iload_n 3, 1) := by decide +kernel
theorem dX3_offerChair_28 : decode cX3_offerChair 28 = .ok (.invokevirtual 72, 3) := by decide +kernel
theorem dX3_offerChair_31 : decode cX3_offerChair 31 = .ok (.ifCond .ne 21, 3) := by decide +kernel
theorem dX3_offerChair_34 : decode cX3_offerChair 34 = .ok (.aload_n 0, 1) := by decide +kernel
theorem dX3_offerChair_35 : decode cX3_offerChair 35 = .ok (.iload_n 3, 1) := by decide +kernel
theorem dX3_offerChair_36 : decode cX3_offerChair 36 = .ok (.iload_n 1, 1) := by decide +kernel
theorem dX3_offerChair_37 : decode cX3_offerChair 37 = .ok (.invokevirtual 118, 3) := by decide +kernel
theorem dX3_offerChair_40 : decode cX3_offerChair 40 = .ok (.pop, 1) := by decide +kernel
theorem dX3_offerChair_41 : decode cX3_offerChair 41 = .ok (.aload_n 0, 1) := by decide +kernel
theorem dX3_offerChair_42 : decode cX3_offerChair 42 = .ok (.dup, 1) := by decide +kernel
theorem dX3_offerChair_43 : decode cX3_offerChair 43 = .ok (.getfield 53, 3) := by decide +kernel
theorem dX3_offerChair_46 : decode cX3_offerChair 46 = .ok (.iconst 1, 1) := by decide +kernel
theorem dX3_offerChair_47 : decode cX3_offerChair 47 = .ok (.iadd, 1) := by decide +kernel
theorem dX3_offerChair_48 : decode cX3_offerChair 48 = .ok (.putfield 53, 3) := by decide +kernel
theorem dX3_offerChair_51 : decode cX3_offerChair 51 = .ok (.return_, 1) := by decide +kernel
theorem dX3_offerChair_52 : decode cX3_offerChair 52 = .ok (.aload_n 0, 1) := by decide +kernel
theorem dX3_offerChair_53 : decode cX3_offerChair 53 = .ok (.dup, 1) := by decide +kernel
theorem dX3_offerChair_54 : decode cX3_offerChair 54 = .ok (.getfield 50, 3) := by decide +kernel
theorem dX3_offerChair_57 : decode cX3_offerChair 57 = .ok (.iconst 1, 1) := by decide +kernel
theorem dX3_offerChair_58 : decode cX3_offerChair 58 = .ok (.iadd, 1) := by decide +kernel
theorem dX3_offerChair_59 : decode cX3_offerChair 59 = .ok (.putfield 50, 3) := by decide +kernel
theorem dX3_offerChair_62 : decode cX3_offerChair 62 = .ok (.iinc 2 1, 3) := by decide +kernel
theorem dX3_offerChair_65 : decode cX3_offerChair 65 = .ok (.goto (-63), 3) := by decide +kernel
theorem dX3_offerChair_68 : decode cX3_offerChair 68 = .ok (.return_, 1) := by decide +kernel
theorem dX3_isStronger_0 : decode cX3_isStronger 0 = .ok (.iload_n 2, 1) := by decide +kernel
theorem dX3_isStronger_1 : decode cX3_isStronger 1 = .ok (.iconst (-1), 1) := by decide +kernel
theorem dX3_isStronger_2 : decode cX3_isStronger 2 = .ok (.if_icmp .eq 22, 3) := by decide +kernel
theorem dX3_isStronger_5 : decode cX3_isStronger 5 = .ok (.aload_n 0, 1) := by decide +kernel
theorem dX3_isStronger_6 : decode cX3_isStronger 6 = .ok (.getfield 9, 3) := by decide +kernel
theorem dX3_isStronger_9 : decode cX3_isStronger 9 = .ok (.iload_n 1, 1) := by decide +kernel
theorem dX3_isStronger_10 : decode cX3_isStronger 10 = .ok (.iaload, 1) := by decide +kernel
theorem dX3_isStronger_11 : decode cX3_isStronger 11 = .ok (.aload_n 0, 1) := by decide +kernel
theorem dX3_isStronger_12 : decode cX3_isStronger 12 = .ok (.getfield 9, 3) := by decide +kernel
theorem dX3_isStronger_15 : decode cX3_isStronger 15 = .ok (.iload_n 2, 1) := by decide +kernel
theorem dX3_isStronger_16 : decode cX3_isStronger 16 = .ok (.iaload, 1) := by decide +kernel
theorem dX3_isStronger_17 : decode cX3_isStronger 17 = .ok (.if_icmp .le 7, 3) := by decide +kernel
theorem dX3_isStronger_20 : decode cX3_isStronger 20 = .ok (.iconst 1, 1) := by decide +kernel
theorem dX3_isStronger_21 : decode cX3_isStronger 21 = .ok (.goto 4, 3) := by decide +kernel
theorem dX3_isStronger_24 : decode cX3_isStronger 24 = .ok (.iconst 0, 1) := by decide +kernel
theorem dX3_isStronger_25 : decode cX3_isStronger 25 = .ok (.ireturn, 1) := by decide +kernel
set_option maxRecDepth 20000 in
theorem ggX3_fightFor_X3_covererAt : GoodIn wsX3_fightFor wsX3_covererAt := goodIn_ca (goodIn_r _ [11, 12, 72, 73, 74, 75, 76, 77, 78, 79, 80, 81, 82, 83, 84, 85, 86] (by decide +kernel) (by decide +kernel)) (goodIn_sub (fun _ h => List.mem_cons_of_mem _ (List.mem_append_right _ h)) (by decide +kernel))
set_option maxRecDepth 20000 in
theorem gX3_fightFor_X3_covererAt : GoodIn wsX3_fightFor (wsV RX3 75 RX3 yX3_covererAt wsX3_covererAt) := goodIn_app (goodIn_of _ (by decide +kernel)) ggX3_fightFor_X3_covererAt
set_option maxRecDepth 20000 in
theorem ggX3_fightFor_X3_isStronger : GoodIn wsX3_fightFor wsX3_isStronger := goodIn_ca (goodIn_r _ [16, 1, 72, 73, 74, 75, 76, 77, 78, 79, 80, 81, 82, 83, 84, 85, 86] (by decide +kernel) (by decide +kernel)) (goodIn_sub (fun _ h => List.mem_cons_of_mem _ (List.mem_append_right _ h)) (by decide +kernel))
set_option maxRecDepth 20000 in
theorem gX3_fightFor_X3_isStronger : GoodIn wsX3_fightFor (wsV RX3 121 RX3 yX3_isStronger wsX3_isStronger) := goodIn_app (goodIn_of _ (by decide +kernel)) ggX3_fightFor_X3_isStronger
set_option maxRecDepth 20000 in
theorem ggX3_fightFor_X3_loseChair : GoodIn wsX3_fightFor wsX3_loseChair := goodIn_ca (goodIn_r _ [20, 21, 22, 12, 23, 24, 25, 10, 26, 72, 73, 74, 75, 76, 77, 78, 79, 80, 81, 82, 83, 84, 85, 86] (by decide +kernel) (by decide +kernel)) (goodIn_sub (fun _ h => List.mem_cons_of_mem _ (List.mem_append_right _ h)) (by decide +kernel))
set_option maxRecDepth 20000 in
theorem gX3_fightFor_X3_loseChair : GoodIn wsX3_fightFor (wsV RX3 130 RX3 yX3_loseChair wsX3_loseChair) := goodIn_app (goodIn_of _ (by decide +kernel)) ggX3_fightFor_X3_loseChair
set_option maxRecDepth 20000 in
theorem ggX3_fightFor_X3_putHat : GoodIn wsX3_fightFor wsX3_putHat := goodIn_ca (goodIn_r _ [30, 21, 31, 32, 12, 33, 34, 35, 36, 10, 37, 38, 39, 40, 41, 42, 43, 44, 45, 46, 47, 72, 73, 74, 75, 76, 77, 78, 79, 80, 81, 82, 83, 84, 85, 86] (by decide +kernel) (by decide +kernel)) (goodIn_sub (fun _ h => List.mem_cons_of_mem _ (List.mem_append_right _ h)) (by decide +kernel))
set_option maxRecDepth 20000 in
theorem gX3_fightFor_X3_putHat : GoodIn wsX3_fightFor (wsV RX3 118 RX3 yX3_putHat wsX3_putHat) := goodIn_app (goodIn_of _ (by decide +kernel)) ggX3_fightFor_X3_putHat
set_option maxRecDepth 20000 in
theorem ggX3_fightFor_X3_offerChairs : GoodIn wsX3_fightFor wsX3_offerChairs := goodIn_ca (goodIn_r _ [51, 7, 8, 9, 10, 11, 12, 52, 53, 54, 55, 56, 57, 58, 59, 60, 61, 62, 63, 64, 65, 66, 67, 68, 69, 70, 71, 21, 27, 28, 29, 30, 31, 32, 33, 34, 35, 36, 37, 38, 39, 40, 41, 42, 43, 44, 45, 46, 47, 72, 73, 74, 75, 76, 77, 78, 79, 80, 81, 82, 83, 84, 85, 86] (by decide +kernel) (by decide +kernel)) (goodIn_sub (fun _ h => List.mem_cons_of_mem _ (List.mem_append_right _ h)) (by decide +kernel))
set_option maxRecDepth 20000 in
theorem gX3_fightFor_X3_offerChairs : GoodIn wsX3_fightFor (wsV RX3 103 RX3 yX3_offerChairs wsX3_offerChairs) := goodIn_app (goodIn_of _ (by decide +kernel)) ggX3_fightFor_X3_offerChairs
theorem dX3_fightFor_0 : decode cX3_fightFor 0 = .ok (.aload_n 0, 1) := by decide +kernel
theorem dX3_fightFor_1 : decode cX3_fightFor 1 = .ok (.iload_n 2, 1) := by decide +kernel
theorem dX3_fightFor_2 : decode cX3_fightFor 2 = .ok (.invokevirtual 75, 3) := by decide +kernel
theorem dX3_fightFor_5 : decode cX3_fightFor 5 = .ok (.istore_n 3, 1) := by decide +kernel
theorem dX3_fightFor_6 : decode cX3_fightFor 6 = .ok (.aload_n 0, 1) := by decide +kernel
theorem dX3_fightFor_7 : decode cX3_fightFor 7 = .ok (.iload_n 1, 1) := by decide +kernel
theorem dX3_fightFor_8 : decode cX3_fightFor 8 = .ok (.iload_n 3, 1) := by decide +kernel
theorem dX3_fightFor_9 : decode cX3_fightFor 9 = .ok (.invokevirtual 121, 3) := by decide +kernel
theorem dX3_fightFor_12 : decode cX3_fightFor 12 = .ok (.ifCond .ne 23, 3) := by decide +kernel
theorem dX3_fightFor_15 : decode cX3_fightFor 15 = .ok (.aload_n 0, 1) := by decide +kernel
theorem dX3_fightFor_16 : decode cX3_fightFor 16 = .ok (.getfield 9, 3) := by decide +kernel
theorem dX3_fightFor_19 : decode cX3_fightFor 19 = .ok (.iload_n 1, 1) := by decide +kernel
theorem dX3_fightFor_20 : decode cX3_fightFor 20 = .ok (.iconst 0, 1) := by decide +kernel
theorem dX3_fightFor_21 : decode cX3_fightFor 21 = .ok (.aload_n 0, 1) := by decide +kernel
theorem dX3_fightFor_22 : decode cX3_fightFor 22 = .ok (.getfield 9, 3) := by decide +kernel
theorem dX3_fightFor_25 : decode cX3_fightFor 25 = .ok (.iload_n 1, 1) := by decide +kernel
theorem dX3_fightFor_26 : decode cX3_fightFor 26 = .ok (.iaload, 1) := by decide +kernel
theorem dX3_fightFor_27 : decode cX3_fightFor 27 = .ok (.iconst 1, 1) := by decide +kernel
theorem dX3_fightFor_28 : decode cX3_fightFor 28 = .ok (.isub, 1) := by decide +kernel
theorem dX3_fightFor_29 : decode cX3_fightFor 29 = .ok (.invokestatic 125, 3) := by decide +kernel
theorem dX3_fightFor_32 : decode cX3_fightFor 32 = .ok (.iastore, 1) := by decide +kernel
theorem dX3_fightFor_33 : decode cX3_fightFor 33 = .ok (.iconst 0, 1) := by decide +kernel
theorem dX3_fightFor_34 : decode cX3_fightFor 34 = .ok (.ireturn, 1) := by decide +kernel
theorem dX3_fightFor_35 : decode cX3_fightFor 35 = .ok (.aload_n 0, 1) := by decide +kernel
theorem dX3_fightFor_36 : decode cX3_fightFor 36 = .ok (.getfield 9, 3) := by decide +kernel
theorem dX3_fightFor_39 : decode cX3_fightFor 39 = .ok (.iload_n 1, 1) := by decide +kernel
theorem dX3_fightFor_40 : decode cX3_fightFor 40 = .ok (.dup2, 1) := by decide +kernel
theorem dX3_fightFor_41 : decode cX3_fightFor 41 = .ok (.iaload, 1) := by decide +kernel
theorem dX3_fightFor_42 : decode cX3_fightFor 42 = .ok (.aload_n 0, 1) := by decide +kernel
theorem dX3_fightFor_43 : decode cX3_fightFor 43 = .ok (.getfield 9, 3) := by decide +kernel
theorem dX3_fightFor_46 : decode cX3_fightFor 46 = .ok (.iload_n 3, 1) := by decide +kernel
theorem dX3_fightFor_47 : decode cX3_fightFor 47 = .ok (.iaload, 1) := by decide +kernel
theorem dX3_fightFor_48 : decode cX3_fightFor 48 = .ok (.isub, 1) := by decide +kernel
theorem dX3_fightFor_49 : decode cX3_fightFor 49 = .ok (.iastore, 1) := by decide +kernel
theorem dX3_fightFor_50 : decode cX3_fightFor 50 = .ok (.aload_n 0, 1) := by decide +kernel
theorem dX3_fightFor_51 : decode cX3_fightFor 51 = .ok (.iload_n 3, 1) := by decide +kernel
theorem dX3_fightFor_52 : decode cX3_fightFor 52 = .ok (.iload_n 2, 1) := by decide +kernel
theorem dX3_fightFor_53 : decode cX3_fightFor 53 = .ok (.invokevirtual 130, 3) := by decide +kernel
theorem dX3_fightFor_56 : decode cX3_fightFor 56 = .ok (.lstore 4, 2) := by decide +kernel
theorem dX3_fightFor_58 : decode cX3_fightFor 58 = .ok (.aload_n 0, 1) := by decide +kernel
theorem dX3_fightFor_59 : decode cX3_fightFor 59 = .ok (.iload_n 1, 1) := by decide +kernel
theorem dX3_fightFor_60 : decode cX3_fightFor 60 = .ok (.iload_n 2, 1) := by decide +kernel
theorem dX3_fightFor_61 : decode cX3_fightFor 61 = .ok (.invokevirtual 118, 3) := by decide +kernel
theorem dX3_fightFor_64 : decode cX3_fightFor 64 = .ok (.pop, 1) := by decide +kernel
theorem dX3_fightFor_65 : decode cX3_fightFor 65 = .ok (.aload_n 0, 1) := by decide +kernel
theorem dX3_fightFor_66 : decode cX3_fightFor 66 = .ok (.dup, 1) := by decide +kernel
theorem dX3_fightFor_67 : decode cX3_fightFor 67 = .ok (.getfield 56, 3) := by decide +kernel
theorem dX3_fightFor_70 : decode cX3_fightFor 70 = .ok (.iconst 1, 1) := by decide +kernel
theorem dX3_fightFor_71 : decode cX3_fightFor 71 = .ok (.iadd, 1) := by decide +kernel
theorem dX3_fightFor_72 : decode cX3_fightFor 72 = .ok (.putfield 56, 3) := by decide +kernel
theorem dX3_fightFor_75 : decode cX3_fightFor 75 = .ok (.aload_n 0, 1) := by decide +kernel
theorem dX3_fightFor_76 : decode cX3_fightFor 76 = .ok (.lload 4, 2) := by decide +kernel
theorem dX3_fightFor_78 : decode cX3_fightFor 78 = .ok (.invokevirtual 103, 3) := by decide +kernel
theorem dX3_fightFor_81 : decode cX3_fightFor 81 = .ok (.iconst 1, 1) := by decide +kernel
theorem dX3_fightFor_82 : decode cX3_fightFor 82 = .ok (.ireturn, 1) := by decide +kernel
set_option maxRecDepth 20000 in
theorem ggX3_loseChair_X3_liftHat : GoodIn wsX3_loseChair wsX3_liftHat := goodIn_ca (goodIn_r _ [8, 3, 1, 9, 10, 11, 12, 13, 14, 15, 16, 17, 18, 19, 20, 21, 22, 23] (by decide +kernel) (by decide +kernel)) (goodIn_sub (fun _ h => List.mem_cons_of_mem _ (List.mem_append_right _ h)) (by decide +kernel))
set_option maxRecDepth 20000 in
theorem gX3_loseChair_X3_liftHat : GoodIn wsX3_loseChair (wsV RX3 99 RX3 yX3_liftHat wsX3_liftHat) := goodIn_app (goodIn_of _ (by decide +kernel)) ggX3_loseChair_X3_liftHat
theorem dX3_loseChair_0 : decode cX3_loseChair 0 = .ok (.aload_n 0, 1) := by decide +kernel
theorem dX3_loseChair_1 : decode cX3_loseChair 1 = .ok (.getfield 18, 3) := by decide +kernel
theorem dX3_loseChair_4 : decode cX3_loseChair 4 = .ok (.iload_n 1, 1) := by decide +kernel
theorem dX3_loseChair_5 : decode cX3_loseChair 5 = .ok (.iaload, 1) := by decide +kernel
theorem dX3_loseChair_6 : decode cX3_loseChair 6 = .ok (.istore_n 3, 1) := by decide +kernel
theorem dX3_loseChair_7 : decode cX3_loseChair 7 = .ok (.iload_n 3, 1) := by decide +kernel
theorem dX3_loseChair_8 : decode cX3_loseChair 8 = .ok (.iload_n 2, 1) := by decide +kernel
theorem dX3_loseChair_9 : decode cX3_loseChair 9 = .ok (.if_icmp .ne 9, 3) := by decide +kernel
theorem dX3_loseChair_12 : decode cX3_loseChair 12 = .ok (.aload_n 0, 1) := by decide +kernel
theorem dX3_loseChair_13 : decode cX3_loseChair 13 = .ok (.iload_n 1, 1) := by decide +kernel
theorem dX3_loseChair_14 : decode cX3_loseChair 14 = .ok (.invokevirtual 99, 3) := by decide +kernel
theorem dX3_loseChair_17 : decode cX3_loseChair 17 = .ok (.lreturn, 1) := by decide +kernel
theorem dX3_loseChair_18 : decode cX3_loseChair 18 = .ok (.lconst 1, 1) := by decide +kernel
theorem dX3_loseChair_19 : decode cX3_loseChair 19 = .ok (.iload_n 2, 1) := by decide +kernel
theorem dX3_loseChair_20 : decode cX3_loseChair 20 = .ok (.lshl, 1) := by decide +kernel
theorem dX3_loseChair_21 : decode cX3_loseChair 21 = .ok (.lstore 4, 2) := by decide +kernel
theorem dX3_loseChair_23 : decode cX3_loseChair 23 = .ok (.lload 4, 2) := by decide +kernel
theorem dX3_loseChair_25 : decode cX3_loseChair 25 = .ok (.lconst 1, 1) := by decide +kernel
theorem dX3_loseChair_26 : decode cX3_loseChair 26 = .ok (.lsub, 1) := by decide +kernel
theorem dX3_loseChair_27 : decode cX3_loseChair 27 = .ok (.lstore 6, 2) := by decide +kernel
theorem dX3_loseChair_29 : decode cX3_loseChair 29 = .ok (.iload_n 2, 1) := by decide +kernel
theorem dX3_loseChair_30 : decode cX3_loseChair 30 = .ok (.iload_n 3, 1) := by decide +kernel
theorem dX3_loseChair_31 : decode cX3_loseChair 31 = .ok (.if_icmp .ge 11, 3) := by decide +kernel
theorem dX3_loseChair_34 : decode cX3_loseChair 34 = .ok (.lload 6, 2) := by decide +kernel
theorem dX3_loseChair_36 : decode cX3_loseChair 36 = .ok (.lload 4, 2) := by decide +kernel
theorem dX3_loseChair_38 : decode cX3_loseChair 38 = .ok (.lor, 1) := by decide +kernel
theorem dX3_loseChair_39 : decode cX3_loseChair 39 = .ok (.goto 9, 3) := by decide +kernel
theorem dX3_loseChair_42 : decode cX3_loseChair 42 = .ok (.lload 6, 2) := by decide +kernel
theorem dX3_loseChair_44 : decode cX3_loseChair 44 = .ok (.ldc2_w 134, 3) := by decide +kernel
theorem dX3_loseChair_47 : decode cX3_loseChair 47 = .ok (.lxor, 1) := by decide +kernel
theorem dX3_loseChair_48 : decode cX3_loseChair 48 = .ok (.lstore 8, 2) := by decide +kernel
theorem dX3_loseChair_50 : decode cX3_loseChair 50 = .ok (.aload_n 0, 1) := by decide +kernel
theorem dX3_loseChair_51 : decode cX3_loseChair 51 = .ok (.getfield 24, 3) := by decide +kernel
theorem dX3_loseChair_54 : decode cX3_loseChair 54 = .ok (.iload_n 1, 1) := by decide +kernel
theorem dX3_loseChair_55 : decode cX3_loseChair 55 = .ok (.laload, 1) := by decide +kernel
theorem dX3_loseChair_56 : decode cX3_loseChair 56 = .ok (.lload 8, 2) := by decide +kernel
theorem dX3_loseChair_58 : decode cX3_loseChair 58 = .ok (.land, 1) := by decide +kernel
theorem dX3_loseChair_59 : decode cX3_loseChair 59 = .ok (.lstore 10, 2) := by decide +kernel
theorem dX3_loseChair_61 : decode cX3_loseChair 61 = .ok (.aload_n 0, 1) := by decide +kernel
theorem dX3_loseChair_62 : decode cX3_loseChair 62 = .ok (.getfield 24, 3) := by decide +kernel
theorem dX3_loseChair_65 : decode cX3_loseChair 65 = .ok (.iload_n 1, 1) := by decide +kernel
theorem dX3_loseChair_66 : decode cX3_loseChair 66 = .ok (.dup2, 1) := by decide +kernel
theorem dX3_loseChair_67 : decode cX3_loseChair 67 = .ok (.laload, 1) := by decide +kernel
theorem dX3_loseChair_68 : decode cX3_loseChair 68 = .ok (.lload 8, 2) := by decide +kernel
theorem dX3_loseChair_70 : decode cX3_loseChair 70 = .ok (.ldc2_w 134, 3) := by decide +kernel
theorem dX3_loseChair_73 : decode cX3_loseChair 73 = .ok (.lxor, 1) := by decide +kernel
theorem dX3_loseChair_74 : decode cX3_loseChair 74 = .ok (.land, 1) := by decide +kernel
theorem dX3_loseChair_75 : decode cX3_loseChair 75 = .ok (.lastore, 1) := by decide +kernel
theorem dX3_loseChair_76 : decode cX3_loseChair 76 = .ok (.lload 10, 2) := by decide +kernel
theorem dX3_loseChair_78 : decode cX3_loseChair 78 = .ok (.lreturn, 1) := by decide +kernel
theorem dX3_letPass_0 : decode cX3_letPass 0 = .ok (.aload_n 0, 1) := by decide +kernel
theorem dX3_letPass_1 : decode cX3_letPass 1 = .ok (.dup, 1) := by decide +kernel
theorem dX3_letPass_2 : decode cX3_letPass 2 = .ok (.getfield 44, 3) := by decide +kernel
theorem dX3_letPass_5 : decode cX3_letPass 5 = .ok (.iload_n 1, 1) := by decide +kernel
theorem dX3_letPass_6 : decode cX3_letPass 6 = .ok (.iadd, 1) := by decide +kernel
theorem dX3_letPass_7 : decode cX3_letPass 7 = .ok (.putfield 44, 3) := by decide +kernel
theorem dX3_letPass_10 : decode cX3_letPass 10 = .ok (.aload_n 0, 1) := by decide +kernel
theorem dX3_letPass_11 : decode cX3_letPass 11 = .ok (.getfield 44, 3) := by decide +kernel
theorem dX3_letPass_14 : decode cX3_letPass 14 = .ok (.ireturn, 1) := by decide +kernel
set_option maxRecDepth 20000 in
theorem ggX3_sweepHats_X3_hatIsPlaced : GoodIn wsX3_sweepHats wsX3_hatIsPlaced := goodIn_ca (goodIn_r _ [6, 7, 62, 63, 64, 65, 66, 67, 68, 69, 70, 71, 72, 73, 74, 75, 76] (by decide +kernel) (by decide +kernel)) (goodIn_sub (fun _ h => List.mem_cons_of_mem _ (List.mem_append_right _ h)) (by decide +kernel))
set_option maxRecDepth 20000 in
theorem gX3_sweepHats_X3_hatIsPlaced : GoodIn wsX3_sweepHats (wsV RX3 72 RX3 yX3_hatIsPlaced wsX3_hatIsPlaced) := goodIn_app (goodIn_of _ (by decide +kernel)) ggX3_sweepHats_X3_hatIsPlaced
set_option maxRecDepth 20000 in
theorem ggX3_sweepHats_X3_idleTime : GoodIn wsX3_sweepHats wsX3_idleTime := goodIn_ca (goodIn_r _ [11, 12, 13, 62, 63, 64, 65, 66, 67, 68, 69, 70, 71, 72, 73, 74, 75, 76] (by decide +kernel) (by decide +kernel)) (goodIn_sub (fun _ h => List.mem_cons_of_mem _ (List.mem_append_right _ h)) (by decide +kernel))
set_option maxRecDepth 20000 in
theorem gX3_sweepHats_X3_idleTime : GoodIn wsX3_sweepHats (wsV RX3 88 RX3 yX3_idleTime wsX3_idleTime) := goodIn_app (goodIn_of _ (by decide +kernel)) ggX3_sweepHats_X3_idleTime
set_option maxRecDepth 20000 in
theorem ggX3_sweepHats_X3_liftHat : GoodIn wsX3_sweepHats wsX3_liftHat := goodIn_ca (goodIn_r _ [17, 18, 7, 62, 63, 64, 65, 66, 67, 68, 69, 70, 71, 72, 73, 74, 75, 76] (by decide +kernel) (by decide +kernel)) (goodIn_sub (fun _ h => List.mem_cons_of_mem _ (List.mem_append_right _ h)) (by decide +kernel))
set_option maxRecDepth 20000 in
theorem gX3_sweepHats_X3_liftHat : GoodIn wsX3_sweepHats (wsV RX3 99 RX3 yX3_liftHat wsX3_liftHat) := goodIn_app (goodIn_of _ (by decide +kernel)) ggX3_sweepHats_X3_liftHat
set_option maxRecDepth 20000 in
theorem ggX3_sweepHats_X3_offerChairs : GoodIn wsX3_sweepHats wsX3_offerChairs := goodIn_ca (goodIn_r _ [22, 23, 24, 25, 5, 26, 18, 27, 28, 29, 30, 31, 32, 33, 34, 35, 36, 37, 38, 39, 40, 41, 42, 2, 3, 4, 6, 7, 43, 44, 45, 46, 13, 12, 47, 48, 49, 50, 51, 52, 53, 54, 55, 56, 57, 58, 59, 60, 61, 62, 63, 64, 65, 66, 67, 68, 69, 70, 71, 72, 73, 74, 75, 76] (by decide +kernel) (by decide +kernel)) (goodIn_sub (fun _ h => List.mem_cons_of_mem _ (List.mem_append_right _ h)) (by decide +kernel))
set_option maxRecDepth 20000 in
theorem gX3_sweepHats_X3_offerChairs : GoodIn wsX3_sweepHats (wsV RX3 103 RX3 yX3_offerChairs wsX3_offerChairs) := goodIn_app (goodIn_of _ (by decide +kernel)) ggX3_sweepHats_X3_offerChairs
theorem dX3_sweepHats_0 : decode cX3_sweepHats 0 = .ok (.lconst 0, 1) := by decide +kernel
theorem dX3_sweepHats_1 : decode cX3_sweepHats 1 = .ok (.lstore_n 2, 1) := by decide +kernel
theorem dX3_sweepHats_2 : decode cX3_sweepHats 2 = .ok (.iconst 0, 1) := by decide +kernel
theorem dX3_sweepHats_3 : decode cX3_sweepHats 3 = .ok (.istore 4, 2) := by decide +kernel
theorem dX3_sweepHats_5 : decode cX3_sweepHats 5 = .ok (.iconst 0, 1) := by decide +kernel
theorem dX3_sweepHats_6 : decode cX3_sweepHats 6 = .ok (.istore 5, 2) := by decide +kernel
theorem dX3_sweepHats_8 : decode cX3_sweepHats 8 = .ok (.iload 5, 2) := by decide +kernel
theorem dX3_sweepHats_10 : decode cX3_sweepHats 10 = .ok (.bipush 8, 2) := by decide +kernel
theorem dX3_sweepHats_12 : decode cX3_sweepHats 12 = .ok (.if_icmp .ge 40, 3) := by decide +kernel
theorem dX3_sweepHats_15 : decode cX3_sweepHats 15 = .ok (.aload_n 0, 1) := by decide +kernel
theorem dX3_sweepHats_16 : decode cX3_sweepHats 16 = .ok (.iload 5, 2) := by decide +kernel
theorem dX3_sweepHats_18 : decode cX3_sweepHats 18 = .ok (.invokevirtual 72, 3) := by decide +kernel
theorem dX3_sweepHats_21 : decode cX3_sweepHats 21 = .ok (.ifCond .eq 25, 3) := by decide +kernel
theorem dX3_sweepHats_24 : decode cX3_sweepHats 24 = .ok (.aload_n 0, 1) := by decide +kernel
theorem dX3_sweepHats_25 : decode cX3_sweepHats 25 = .ok (.iload 5, 2) := by decide +kernel
theorem dX3_sweepHats_27 : decode cX3_sweepHats 27 = .ok (.invokevirtual 88, 3) := by decide +kernel
theorem dX3_sweepHats_30 : decode cX3_sweepHats 30 = .ok (.iload_n 1, 1) := by decide +kernel
theorem dX3_sweepHats_31 : decode cX3_sweepHats 31 = .ok (.if_icmp .lt 15, 3) := by decide +kernel
theorem dX3_sweepHats_34 : decode cX3_sweepHats 34 = .ok (.lload_n 2, 1) := by decide +kernel
theorem dX3_sweepHats_35 : decode cX3_sweepHats 35 = .ok (.aload_n 0, 1) := by decide +kernel
theorem dX3_sweepHats_36 : decode cX3_sweepHats 36 = .ok (.iload 5, 2) := by decide +kernel
theorem dX3_sweepHats_38 : decode cX3_sweepHats 38 = .ok (.invokevirtual 99, 3) := by decide +kernel
theorem dX3_sweepHats_41 : decode cX3_sweepHats 41 = .ok (.lor, 1) := by decide +kernel
theorem dX3_sweepHats_42 : decode cX3_sweepHats 42 = .ok (.lstore_n 2, 1) := by decide +kernel
theorem dX3_sweepHats_43 : decode cX3_sweepHats 43 = .ok (.iinc 4 1, 3) := by decide +kernel
theorem dX3_sweepHats_46 : decode cX3_sweepHats 46 = .ok (.iinc 5 1, 3) := by decide +kernel
theorem dX3_sweepHats_49 : decode cX3_sweepHats 49 = .ok (.goto (-41), 3) := by decide +kernel
theorem dX3_sweepHats_52 : decode cX3_sweepHats 52 = .ok (.aload_n 0, 1) := by decide +kernel
theorem dX3_sweepHats_53 : decode cX3_sweepHats 53 = .ok (.dup, 1) := by decide +kernel
theorem dX3_sweepHats_54 : decode cX3_sweepHats 54 = .ok (.getfield 47, 3) := by decide +kernel
theorem dX3_sweepHats_57 : decode cX3_sweepHats 57 = .ok (.iload 4, 2) := by decide +kernel
theorem dX3_sweepHats_59 : decode cX3_sweepHats 59 = .ok (.iadd, 1) := by decide +kernel
theorem dX3_sweepHats_60 : decode cX3_sweepHats 60 = .ok (.putfield 47, 3) := by decide +kernel
theorem dX3_sweepHats_63 : decode cX3_sweepHats 63 = .ok (.aload_n 0, 1) := by decide +kernel
theorem dX3_sweepHats_64 : decode cX3_sweepHats 64 = .ok (.lload_n 2, 1) := by decide +kernel
theorem dX3_sweepHats_65 : decode cX3_sweepHats 65 = .ok (.invokevirtual 103, 3) := by decide +kernel
theorem dX3_sweepHats_68 : decode cX3_sweepHats 68 = .ok (.iload 4, 2) := by decide +kernel
theorem dX3_sweepHats_70 : decode cX3_sweepHats 70 = .ok (.ireturn, 1) := by decide +kernel
set_option maxRecDepth 20000 in
theorem ggX3_idlest_X3_hatIsPlaced : GoodIn wsX3_idlest wsX3_hatIsPlaced := goodIn_ca (goodIn_r _ [5, 6, 13, 14, 15, 16, 17, 18, 19, 20, 21, 22, 23, 24, 25, 26, 27] (by decide +kernel) (by decide +kernel)) (goodIn_sub (fun _ h => List.mem_cons_of_mem _ (List.mem_append_right _ h)) (by decide +kernel))
set_option maxRecDepth 20000 in
theorem gX3_idlest_X3_hatIsPlaced : GoodIn wsX3_idlest (wsV RX3 72 RX3 yX3_hatIsPlaced wsX3_hatIsPlaced) := goodIn_app (goodIn_of _ (by decide +kernel)) ggX3_idlest_X3_hatIsPlaced
set_option maxRecDepth 20000 in
theorem ggX3_idlest_X3_idleTime : GoodIn wsX3_idlest wsX3_idleTime := goodIn_ca (goodIn_r _ [10, 11, 12, 13, 14, 15, 16, 17, 18, 19, 20, 21, 22, 23, 24, 25, 26, 27] (by decide +kernel) (by decide +kernel)) (goodIn_sub (fun _ h => List.mem_cons_of_mem _ (List.mem_append_right _ h)) (by decide +kernel))
set_option maxRecDepth 20000 in
theorem gX3_idlest_X3_idleTime : GoodIn wsX3_idlest (wsV RX3 88 RX3 yX3_idleTime wsX3_idleTime) := goodIn_app (goodIn_of _ (by decide +kernel)) ggX3_idlest_X3_idleTime
theorem dX3_idlest_0 : decode cX3_idlest 0 = .ok (.iconst (-1), 1) := by decide +kernel
theorem dX3_idlest_1 : decode cX3_idlest 1 = .ok (.istore_n 1, 1) := by decide +kernel
theorem dX3_idlest_2 : decode cX3_idlest 2 = .ok (.iconst 0, 1) := by decide +kernel
theorem dX3_idlest_3 : decode cX3_idlest 3 = .ok (.istore_n 2, 1) := by decide +kernel
theorem dX3_idlest_4 : decode cX3_idlest 4 = .ok (.iload_n 2, 1) := by decide +kernel
theorem dX3_idlest_5 : decode cX3_idlest 5 = .ok (.bipush 8, 2) := by decide +kernel
theorem dX3_idlest_7 : decode cX3_idlest 7 = .ok (.if_icmp .ge 37, 3) := by decide +kernel
theorem dX3_idlest_10 : decode cX3_idlest 10 = .ok (.aload_n 0, 1) := by decide +kernel
theorem dX3_idlest_11 : decode cX3_idlest 11 = .ok (.iload_n 2, 1) := by decide +kernel
theorem dX3_idlest_12 : decode cX3_idlest 12 = .ok (.invokevirtual 72, 3) := by decide +kernel
theorem dX3_idlest_15 : decode cX3_idlest 15 = .ok (.ifCond .eq 23, 3) := by decide +kernel
theorem dX3_idlest_18 : decode cX3_idlest 18 = .ok (.iload_n 1, 1) := by decide +kernel
theorem dX3_idlest_19 : decode cX3_idlest 19 = .ok (.iconst (-1), 1) := by decide +kernel
theorem dX3_idlest_20 : decode cX3_idlest 20 = .ok (.if_icmp .eq 16, 3) := by decide +kernel
theorem dX3_idlest_23 : decode cX3_idlest 23 = .ok (.aload_n 0, 1) := by decide +kernel
theorem dX3_idlest_24 : decode cX3_idlest 24 = .ok (.iload_n 2, 1) := by decide +kernel
theorem dX3_idlest_25 : decode cX3_idlest 25 = .ok (.invokevirtual 88, 3) := by decide +kernel
theorem dX3_idlest_28 : decode cX3_idlest 28 = .ok (.aload_n 0, 1) := by decide +kernel
theorem dX3_idlest_29 : decode cX3_idlest 29 = .ok (.iload_n 1, 1) := by decide +kernel
theorem dX3_idlest_30 : decode cX3_idlest 30 = .ok (.invokevirtual 88, 3) := by decide +kernel
theorem dX3_idlest_33 : decode cX3_idlest 33 = .ok (.if_icmp .le 5, 3) := by decide +kernel
theorem dX3_idlest_36 : decode cX3_idlest 36 = .ok (.iload_n 2, 1) := by decide +kernel
theorem dX3_idlest_37 : decode cX3_idlest 37 = .ok (.istore_n 1, 1) := by decide +kernel
theorem dX3_idlest_38 : decode cX3_idlest 38 = .ok (.iinc 2 1, 3) := by decide +kernel
theorem dX3_idlest_41 : decode cX3_idlest 41 = .ok (.goto (-37), 3) := by decide +kernel
theorem dX3_idlest_44 : decode cX3_idlest 44 = .ok (.iload_n 1, 1) := by decide +kernel
theorem dX3_idlest_45 : decode cX3_idlest 45 = .ok (.ireturn, 1) := by decide +kernel
theorem dX3_covererAt_0 : decode cX3_covererAt 0 = .ok (.iconst 0, 1) := by decide +kernel
theorem dX3_covererAt_1 : decode cX3_covererAt 1 = .ok (.istore_n 2, 1) := by decide +kernel
theorem dX3_covererAt_2 : decode cX3_covererAt 2 = .ok (.iload_n 2, 1) := by decide +kernel
theorem dX3_covererAt_3 : decode cX3_covererAt 3 = .ok (.bipush 8, 2) := by decide +kernel
theorem dX3_covererAt_5 : decode cX3_covererAt 5 = .ok (.if_icmp .ge 26, 3) := by decide +kernel
theorem dX3_covererAt_8 : decode cX3_covererAt 8 = .ok (.aload_n 0, 1) := by decide +kernel
theorem dX3_covererAt_9 : decode cX3_covererAt 9 = .ok (.getfield 24, 3) := by decide +kernel
theorem dX3_covererAt_12 : decode cX3_covererAt 12 = .ok (.iload_n 2, 1) := by decide +kernel
theorem dX3_covererAt_13 : decode cX3_covererAt 13 = .ok (.laload, 1) := by decide +kernel
theorem dX3_covererAt_14 : decode cX3_covererAt 14 = .ok (.iload_n 1, 1) := by decide +kernel
theorem dX3_covererAt_15 : decode cX3_covererAt 15 = .ok (.lushr, 1) := by decide +kernel
theorem dX3_covererAt_16 : decode cX3_covererAt 16 = .ok (.lconst 1, 1) := by decide +kernel
theorem dX3_covererAt_17 : decode cX3_covererAt 17 = .ok (.land, 1) := by decide +kernel
theorem dX3_covererAt_18 : decode cX3_covererAt 18 = .ok (.lconst 0, 1) := by decide +kernel
theorem dX3_covererAt_19 : decode cX3_covererAt 19 = .ok (.lcmp, 1) := by decide +kernel
theorem dX3_covererAt_20 : decode cX3_covererAt 20 = .ok (.ifCond .eq 5, 3) := by decide +kernel
theorem dX3_covererAt_23 : decode cX3_covererAt 23 = .ok (.iload_n 2, 1) := by decide +kernel
theorem dX3_covererAt_24 : decode cX3_covererAt 24 = .ok (.ireturn, 1) := by decide +kernel
theorem dX3_covererAt_25 : decode cX3_covererAt 25 = .ok (.iinc 2 1, 3) := by decide +kernel
theorem dX3_covererAt_28 : decode cX3_covererAt 28 = .ok (.goto (-26), 3) := by decide +kernel
theorem dX3_covererAt_31 : decode cX3_covererAt 31 = .ok (.iconst (-1), 1) := by decide +kernel
theorem dX3_covererAt_32 : decode cX3_covererAt 32 = .ok (.ireturn, 1) := by decide +kernel
theorem dX3_coveredChairs_0 : decode cX3_coveredChairs 0 = .ok (.lconst 0, 1) := by decide +kernel
theorem dX3_coveredChairs_1 : decode cX3_coveredChairs 1 = .ok (.lstore_n 1, 1) := by decide +kernel
theorem dX3_coveredChairs_2 : decode cX3_coveredChairs 2 = .ok (.iconst 0, 1) := by decide +kernel
theorem dX3_coveredChairs_3 : decode cX3_coveredChairs 3 = .ok (.istore_n 3, 1) := by decide +kernel
theorem dX3_coveredChairs_4 : decode cX3_coveredChairs 4 = .ok (.iload_n 3, 1) := by decide +kernel
theorem dX3_coveredChairs_5 : decode cX3_coveredChairs 5 = .ok (.bipush 8, 2) := by decide +kernel
theorem dX3_coveredChairs_7 : decode cX3_coveredChairs 7 = .ok (.if_icmp .ge 18, 3) := by decide +kernel
theorem dX3_coveredChairs_10 : decode cX3_coveredChairs 10 = .ok (.lload_n 1, 1) := by decide +kernel
theorem dX3_coveredChairs_11 : decode cX3_coveredChairs 11 = .ok (.aload_n 0, 1) := by decide +kernel
theorem dX3_coveredChairs_12 : decode cX3_coveredChairs 12 = .ok (.getfield 24, 3) := by decide +kernel
theorem dX3_coveredChairs_15 : decode cX3_coveredChairs 15 = .ok (.iload_n 3, 1) := by decide +kernel
theorem dX3_coveredChairs_16 : decode cX3_coveredChairs 16 = .ok (.laload, 1) := by decide +kernel
theorem dX3_coveredChairs_17 : decode cX3_coveredChairs 17 = .ok (.lor, 1) := by decide +kernel
theorem dX3_coveredChairs_18 : decode cX3_coveredChairs 18 = .ok (.lstore_n 1, 1) := by decide +kernel
theorem dX3_coveredChairs_19 : decode cX3_coveredChairs 19 = .ok (.iinc 3 1, 3) := by decide +kernel
theorem dX3_coveredChairs_22 : decode cX3_coveredChairs 22 = .ok (.goto (-18), 3) := by decide +kernel
theorem dX3_coveredChairs_25 : decode cX3_coveredChairs 25 = .ok (.lload_n 1, 1) := by decide +kernel
theorem dX3_coveredChairs_26 : decode cX3_coveredChairs 26 = .ok (.lreturn, 1) := by decide +kernel
set_option maxRecDepth 20000 in
theorem ggX3_countByChair_X3_covererAt : GoodIn wsX3_countByChair wsX3_covererAt := goodIn_ca (goodIn_r _ [5, 6, 7, 8, 9, 10, 11, 12, 13, 14, 15, 16, 17, 18, 19, 20, 21] (by decide +kernel) (by decide +kernel)) (goodIn_sub (fun _ h => List.mem_cons_of_mem _ (List.mem_append_right _ h)) (by decide +kernel))
set_option maxRecDepth 20000 in
theorem gX3_countByChair_X3_covererAt : GoodIn wsX3_countByChair (wsV RX3 75 RX3 yX3_covererAt wsX3_covererAt) := goodIn_app (goodIn_of _ (by decide +kernel)) ggX3_countByChair_X3_covererAt
theorem dX3_countByChair_0 : decode cX3_countByChair 0 = .ok (.iconst 0, 1) := by decide +kernel
theorem dX3_countByChair_1 : decode cX3_countByChair 1 = .ok (.istore_n 1, 1) := by decide +kernel
theorem dX3_countByChair_2 : decode cX3_countByChair 2 = .ok (.iconst 0, 1) := by decide +kernel
theorem dX3_countByChair_3 : decode cX3_countByChair 3 = .ok (.istore_n 2, 1) := by decide +kernel
theorem dX3_countByChair_4 : decode cX3_countByChair 4 = .ok (.iload_n 2, 1) := by decide +kernel
theorem dX3_countByChair_5 : decode cX3_countByChair 5 = .ok (.bipush 40, 2) := by decide +kernel
theorem dX3_countByChair_7 : decode cX3_countByChair 7 = .ok (.if_icmp .ge 21, 3) := by decide +kernel
theorem dX3_countByChair_10 : decode cX3_countByChair 10 = .ok (.aload_n 0, 1) := by decide +kernel
theorem dX3_countByChair_11 : decode cX3_countByChair 11 = .ok (.iload_n 2, 1) := by decide +kernel
theorem dX3_countByChair_12 : decode cX3_countByChair 12 = .ok (.invokevirtual 75, 3) := by decide +kernel
theorem dX3_countByChair_15 : decode cX3_countByChair 15 = .ok (.iconst (-1), 1) := by decide +kernel
theorem dX3_countByChair_16 : decode cX3_countByChair 16 = .ok (.if_icmp .eq 6, 3) := by decide +kernel
theorem dX3_countByChair_19 : decode cX3_countByChair 19 = .ok (.iinc 1 1, 3) := by decide +kernel
theorem dX3_countByChair_22 : decode cX3_countByChair 22 = .ok (.iinc 2 1, 3) := by decide +kernel
theorem dX3_countByChair_25 : decode cX3_countByChair 25 = .ok (.goto (-21), 3) := by decide +kernel
theorem dX3_countByChair_28 : decode cX3_countByChair 28 = .ok (.iload_n 1, 1) := by decide +kernel
theorem dX3_countByChair_29 : decode cX3_countByChair 29 = .ok (.ireturn, 1) := by decide +kernel
set_option maxRecDepth 20000 in
theorem ggX3_countPlaced_X3_hatIsPlaced : GoodIn wsX3_countPlaced wsX3_hatIsPlaced := goodIn_ca (goodIn_r _ [5, 6, 7, 8, 9, 10, 11, 12, 13, 14, 15, 16, 17, 18, 19, 20, 21] (by decide +kernel) (by decide +kernel)) (goodIn_sub (fun _ h => List.mem_cons_of_mem _ (List.mem_append_right _ h)) (by decide +kernel))
set_option maxRecDepth 20000 in
theorem gX3_countPlaced_X3_hatIsPlaced : GoodIn wsX3_countPlaced (wsV RX3 72 RX3 yX3_hatIsPlaced wsX3_hatIsPlaced) := goodIn_app (goodIn_of _ (by decide +kernel)) ggX3_countPlaced_X3_hatIsPlaced
theorem dX3_countPlaced_0 : decode cX3_countPlaced 0 = .ok (.iconst 0, 1) := by decide +kernel
theorem dX3_countPlaced_1 : decode cX3_countPlaced 1 = .ok (.istore_n 1, 1) := by decide +kernel
theorem dX3_countPlaced_2 : decode cX3_countPlaced 2 = .ok (.iconst 0, 1) := by decide +kernel
theorem dX3_countPlaced_3 : decode cX3_countPlaced 3 = .ok (.istore_n 2, 1) := by decide +kernel
theorem dX3_countPlaced_4 : decode cX3_countPlaced 4 = .ok (.iload_n 2, 1) := by decide +kernel
theorem dX3_countPlaced_5 : decode cX3_countPlaced 5 = .ok (.bipush 8, 2) := by decide +kernel
theorem dX3_countPlaced_7 : decode cX3_countPlaced 7 = .ok (.if_icmp .ge 20, 3) := by decide +kernel
theorem dX3_countPlaced_10 : decode cX3_countPlaced 10 = .ok (.aload_n 0, 1) := by decide +kernel
theorem dX3_countPlaced_11 : decode cX3_countPlaced 11 = .ok (.iload_n 2, 1) := by decide +kernel
theorem dX3_countPlaced_12 : decode cX3_countPlaced 12 = .ok (.invokevirtual 72, 3) := by decide +kernel
theorem dX3_countPlaced_15 : decode cX3_countPlaced 15 = .ok (.ifCond .eq 6, 3) := by decide +kernel
theorem dX3_countPlaced_18 : decode cX3_countPlaced 18 = .ok (.iinc 1 1, 3) := by decide +kernel
theorem dX3_countPlaced_21 : decode cX3_countPlaced 21 = .ok (.iinc 2 1, 3) := by decide +kernel
theorem dX3_countPlaced_24 : decode cX3_countPlaced 24 = .ok (.goto (-20), 3) := by decide +kernel
theorem dX3_countPlaced_27 : decode cX3_countPlaced 27 = .ok (.iload_n 1, 1) := by decide +kernel
theorem dX3_countPlaced_28 : decode cX3_countPlaced 28 = .ok (.ireturn, 1) := by decide +kernel
set_option maxRecDepth 20000 in
theorem ggX3_freeRunByScan_X3_covererAt : GoodIn wsX3_freeRunByScan wsX3_covererAt := goodIn_ca (goodIn_r _ [9, 10, 11, 12, 13, 14, 15, 16, 17, 18, 19, 20, 21, 22, 23, 24, 25] (by decide +kernel) (by decide +kernel)) (goodIn_sub (fun _ h => List.mem_cons_of_mem _ (List.mem_append_right _ h)) (by decide +kernel))
set_option maxRecDepth 20000 in
theorem gX3_freeRunByScan_X3_covererAt : GoodIn wsX3_freeRunByScan (wsV RX3 75 RX3 yX3_covererAt wsX3_covererAt) := goodIn_app (goodIn_of _ (by decide +kernel)) ggX3_freeRunByScan_X3_covererAt
theorem dX3_freeRunByScan_0 : decode cX3_freeRunByScan 0 = .ok (.iconst 0, 1) := by decide +kernel
theorem dX3_freeRunByScan_1 : decode cX3_freeRunByScan 1 = .ok (.istore_n 2, 1) := by decide +kernel
theorem dX3_freeRunByScan_2 : decode cX3_freeRunByScan 2 = .ok (.iconst 0, 1) := by decide +kernel
theorem dX3_freeRunByScan_3 : decode cX3_freeRunByScan 3 = .ok (.istore_n 3, 1) := by decide +kernel
theorem dX3_freeRunByScan_4 : decode cX3_freeRunByScan 4 = .ok (.iconst 0, 1) := by decide +kernel
theorem dX3_freeRunByScan_5 : decode cX3_freeRunByScan 5 = .ok (.istore 4, 2) := by decide +kernel
theorem dX3_freeRunByScan_7 : decode cX3_freeRunByScan 7 = .ok (.iload 4, 2) := by decide +kernel
theorem dX3_freeRunByScan_9 : decode cX3_freeRunByScan 9 = .ok (.bipush 10, 2) := by decide +kernel
theorem dX3_freeRunByScan_11 : decode cX3_freeRunByScan 11 = .ok (.if_icmp .ge 38, 3) := by decide +kernel
theorem dX3_freeRunByScan_14 : decode cX3_freeRunByScan 14 = .ok (.aload_n 0, 1) := by decide +kernel
theorem dX3_freeRunByScan_15 : decode cX3_freeRunByScan 15 = .ok (.iload_n 1, 1) := by decide +kernel
theorem dX3_freeRunByScan_16 : decode cX3_freeRunByScan 16 = .ok (.bipush 10, 2) := by decide +kernel
theorem dX3_freeRunByScan_18 : decode cX3_freeRunByScan 18 = .ok (.imul, 1) := by decide +kernel
theorem dX3_freeRunByScan_19 : decode cX3_freeRunByScan 19 = .ok (.iload 4, 2) := by decide +kernel
theorem dX3_freeRunByScan_21 : decode cX3_freeRunByScan 21 = .ok (.iadd, 1) := by decide +kernel
theorem dX3_freeRunByScan_22 : decode cX3_freeRunByScan 22 = .ok (.invokevirtual 75, 3) := by decide +kernel
theorem dX3_freeRunByScan_25 : decode cX3_freeRunByScan 25 = .ok (.iconst (-1), 1) := by decide +kernel
theorem dX3_freeRunByScan_26 : decode cX3_freeRunByScan 26 = .ok (.if_icmp .ne 9, 3) := by decide +kernel
theorem dX3_freeRunByScan_29 : decode cX3_freeRunByScan 29 = .ok (.iload_n 3, 1) := by decide +kernel
theorem dX3_freeRunByScan_30 : decode cX3_freeRunByScan 30 = .ok (.iconst 1, 1) := by decide +kernel
theorem dX3_freeRunByScan_31 : decode cX3_freeRunByScan 31 = .ok (.iadd, 1) := by decide +kernel
theorem dX3_freeRunByScan_32 : decode cX3_freeRunByScan 32 = .ok (.goto 4, 3) := by decide +kernel
theorem dX3_freeRunByScan_35 : decode cX3_freeRunByScan 35 = .ok (.iconst 0, 1) := by decide +kernel
theorem dX3_freeRunByScan_36 : decode cX3_freeRunByScan 36 = .ok (.istore_n 3, 1) := by decide +kernel
theorem dX3_freeRunByScan_37 : decode cX3_freeRunByScan 37 = .ok (.iload_n 2, 1) := by decide +kernel
theorem dX3_freeRunByScan_38 : decode cX3_freeRunByScan 38 = .ok (.iload_n 3, 1) := by decide +kernel
theorem dX3_freeRunByScan_39 : decode cX3_freeRunByScan 39 = .ok (.invokestatic 125, 3) := by decide +kernel
theorem dX3_freeRunByScan_42 : decode cX3_freeRunByScan 42 = .ok (.istore_n 2, 1) := by decide +kernel
theorem dX3_freeRunByScan_43 : decode cX3_freeRunByScan 43 = .ok (.iinc 4 1, 3) := by decide +kernel
theorem dX3_freeRunByScan_46 : decode cX3_freeRunByScan 46 = .ok (.goto (-39), 3) := by decide +kernel
theorem dX3_freeRunByScan_49 : decode cX3_freeRunByScan 49 = .ok (.iload_n 2, 1) := by decide +kernel
theorem dX3_freeRunByScan_50 : decode cX3_freeRunByScan 50 = .ok (.ireturn, 1) := by decide +kernel
set_option maxRecDepth 20000 in
theorem ggX3_freeRunByShift_X3_coveredChairs : GoodIn wsX3_freeRunByShift wsX3_coveredChairs := goodIn_ca (goodIn_r _ [7, 8, 9, 10, 11, 12, 13, 14, 15, 16, 17, 18, 19, 20, 21, 22, 23] (by decide +kernel) (by decide +kernel)) (goodIn_sub (fun _ h => List.mem_cons_of_mem _ (List.mem_append_right _ h)) (by decide +kernel))
set_option maxRecDepth 20000 in
theorem gX3_freeRunByShift_X3_coveredChairs : GoodIn wsX3_freeRunByShift (wsV RX3 91 RX3 yX3_coveredChairs wsX3_coveredChairs) := goodIn_app (goodIn_of _ (by decide +kernel)) ggX3_freeRunByShift_X3_coveredChairs
theorem dX3_freeRunByShift_0 : decode cX3_freeRunByShift 0 = .ok (.aload_n 0, 1) := by decide +kernel
theorem dX3_freeRunByShift_1 : decode cX3_freeRunByShift 1 = .ok (.invokevirtual 91, 3) := by decide +kernel
theorem dX3_freeRunByShift_4 : decode cX3_freeRunByShift 4 = .ok (.iload_n 1, 1) := by decide +kernel
theorem dX3_freeRunByShift_5 : decode cX3_freeRunByShift 5 = .ok (.bipush 10, 2) := by decide +kernel
theorem dX3_freeRunByShift_7 : decode cX3_freeRunByShift 7 = .ok (.imul, 1) := by decide +kernel
theorem dX3_freeRunByShift_8 : decode cX3_freeRunByShift 8 = .ok (.lushr, 1) := by decide +kernel
theorem dX3_freeRunByShift_9 : decode cX3_freeRunByShift 9 = .ok (.ldc2_w 134, 3) := by decide +kernel
theorem dX3_freeRunByShift_12 : decode cX3_freeRunByShift 12 = .ok (.lxor, 1) := by decide +kernel
theorem dX3_freeRunByShift_13 : decode cX3_freeRunByShift 13 = .ok (.ldc2_w 139, 3) := by decide +kernel
theorem dX3_freeRunByShift_16 : decode cX3_freeRunByShift 16 = .ok (.land, 1) := by decide +kernel
theorem dX3_freeRunByShift_17 : decode cX3_freeRunByShift 17 = .ok (.lstore_n 2, 1) := by decide +kernel
theorem dX3_freeRunByShift_18 : decode cX3_freeRunByShift 18 = .ok (.iconst 0, 1) := by decide +kernel
theorem dX3_freeRunByShift_19 : decode cX3_freeRunByShift 19 = .ok (.istore 4, 2) := by decide +kernel
theorem dX3_freeRunByShift_21 : decode cX3_freeRunByShift 21 = .ok (.iconst 0, 1) := by decide +kernel
theorem dX3_freeRunByShift_22 : decode cX3_freeRunByShift 22 = .ok (.istore 5, 2) := by decide +kernel
theorem dX3_freeRunByShift_24 : decode cX3_freeRunByShift 24 = .ok (.iload 5, 2) := by decide +kernel
theorem dX3_freeRunByShift_26 : decode cX3_freeRunByShift 26 = .ok (.bipush 10, 2) := by decide +kernel
theorem dX3_freeRunByShift_28 : decode cX3_freeRunByShift 28 = .ok (.if_icmp .ge 24, 3) := by decide +kernel
theorem dX3_freeRunByShift_31 : decode cX3_freeRunByShift 31 = .ok (.lload_n 2, 1) := by decide +kernel
theorem dX3_freeRunByShift_32 : decode cX3_freeRunByShift 32 = .ok (.lconst 0, 1) := by decide +kernel
theorem dX3_freeRunByShift_33 : decode cX3_freeRunByShift 33 = .ok (.lcmp, 1) := by decide +kernel
theorem dX3_freeRunByShift_34 : decode cX3_freeRunByShift 34 = .ok (.ifCond .eq 18, 3) := by decide +kernel
theorem dX3_freeRunByShift_37 : decode cX3_freeRunByShift 37 = .ok (.lload_n 2, 1) := by decide +kernel
theorem dX3_freeRunByShift_38 : decode cX3_freeRunByShift 38 = .ok (.lload_n 2, 1) := by decide +kernel
theorem dX3_freeRunByShift_39 : decode cX3_freeRunByShift 39 = .ok (.iconst 1, 1) := by decide +kernel
theorem dX3_freeRunByShift_40 : decode cX3_freeRunByShift 40 = .ok (.lshl, 1) := by decide +kernel
theorem dX3_freeRunByShift_41 : decode cX3_freeRunByShift 41 = .ok (.land, 1) := by decide +kernel
theorem dX3_freeRunByShift_42 : decode cX3_freeRunByShift 42 = .ok (.lstore_n 2, 1) := by decide +kernel
theorem dX3_freeRunByShift_43 : decode cX3_freeRunByShift 43 = .ok (.iinc 4 1, 3) := by decide +kernel
theorem dX3_freeRunByShift_46 : decode cX3_freeRunByShift 46 = .ok (.iinc 5 1, 3) := by decide +kernel
theorem dX3_freeRunByShift_49 : decode cX3_freeRunByShift 49 = .ok (.goto (-25), 3) := by decide +kernel
theorem dX3_freeRunByShift_52 : decode cX3_freeRunByShift 52 = .ok (.iload 4, 2) := by decide +kernel
theorem dX3_freeRunByShift_54 : decode cX3_freeRunByShift 54 = .ok (.ireturn, 1) := by decide +kernel
set_option maxRecDepth 20000 in
theorem ggX3_guestBehind_X3_countBefore : GoodIn wsX3_guestBehind wsX3_countBefore := goodIn_ca (goodIn_r _ [6, 1, 7, 8, 9, 5, 10, 11, 12, 13, 14, 15, 16, 17, 18, 19, 20, 21, 22, 23, 24, 25, 26, 27, 28, 29, 30, 31, 32, 33, 34, 35, 36, 37, 38] (by decide +kernel) (by decide +kernel)) (goodIn_sub (fun _ h => List.mem_cons_of_mem _ (List.mem_append_right _ h)) (by decide +kernel))
set_option maxRecDepth 20000 in
theorem gX3_guestBehind_X3_countBefore : GoodIn wsX3_guestBehind (wsV RX3 141 RX3 yX3_countBefore wsX3_countBefore) := goodIn_app (goodIn_of _ (by decide +kernel)) ggX3_guestBehind_X3_countBefore
theorem dX3_guestBehind_0 : decode cX3_guestBehind 0 = .ok (.iconst 0, 1) := by decide +kernel
theorem dX3_guestBehind_1 : decode cX3_guestBehind 1 = .ok (.istore_n 2, 1) := by decide +kernel
theorem dX3_guestBehind_2 : decode cX3_guestBehind 2 = .ok (.iload_n 2, 1) := by decide +kernel
theorem dX3_guestBehind_3 : decode cX3_guestBehind 3 = .ok (.bipush 8, 2) := by decide +kernel
theorem dX3_guestBehind_5 : decode cX3_guestBehind 5 = .ok (.if_icmp .ge 28, 3) := by decide +kernel
theorem dX3_guestBehind_8 : decode cX3_guestBehind 8 = .ok (.iload_n 2, 1) := by decide +kernel
theorem dX3_guestBehind_9 : decode cX3_guestBehind 9 = .ok (.aload_n 0, 1) := by decide +kernel
theorem dX3_guestBehind_10 : decode cX3_guestBehind 10 = .ok (.getfield 41, 3) := by decide +kernel
theorem dX3_guestBehind_13 : decode cX3_guestBehind 13 = .ok (.if_icmp .ge 20, 3) := by decide +kernel
theorem dX3_guestBehind_16 : decode cX3_guestBehind 16 = .ok (.aload_n 0, 1) := by decide +kernel
theorem dX3_guestBehind_17 : decode cX3_guestBehind 17 = .ok (.iload_n 2, 1) := by decide +kernel
theorem dX3_guestBehind_18 : decode cX3_guestBehind 18 = .ok (.invokevirtual 141, 3) := by decide +kernel
theorem dX3_guestBehind_21 : decode cX3_guestBehind 21 = .ok (.iload_n 1, 1) := by decide +kernel
theorem dX3_guestBehind_22 : decode cX3_guestBehind 22 = .ok (.if_icmp .ne 5, 3) := by decide +kernel
theorem dX3_guestBehind_25 : decode cX3_guestBehind 25 = .ok (.iload_n 2, 1) := by decide +kernel
theorem dX3_guestBehind_26 : decode cX3_guestBehind 26 = .ok (.ireturn, 1) := by decide +kernel
theorem dX3_guestBehind_27 : decode cX3_guestBehind 27 = .ok (.iinc 2 1, 3) := by decide +kernel
theorem dX3_guestBehind_30 : decode cX3_guestBehind 30 = .ok (.goto (-28), 3) := by decide +kernel
theorem dX3_guestBehind_33 : decode cX3_guestBehind 33 = .ok (.iconst (-1), 1) := by decide +kernel
theorem dX3_guestBehind_34 : decode cX3_guestBehind 34 = .ok (.ireturn, 1) := by decide +kernel
set_option maxRecDepth 20000 in
theorem ggX3_countBefore_X3_precedes : GoodIn wsX3_countBefore wsX3_precedes := goodIn_ca (goodIn_r _ [6, 7, 8, 9, 10, 5, 11, 12, 13, 14, 15, 16, 17, 18, 19, 20, 21, 22, 23, 24, 25, 26, 27, 28, 29, 30, 31, 32, 33, 34] (by decide +kernel) (by decide +kernel)) (goodIn_sub (fun _ h => List.mem_cons_of_mem _ (List.mem_append_right _ h)) (by decide +kernel))
set_option maxRecDepth 20000 in
theorem gX3_countBefore_X3_precedes : GoodIn wsX3_countBefore (wsV RX3 144 RX3 yX3_precedes wsX3_precedes) := goodIn_app (goodIn_of _ (by decide +kernel)) ggX3_countBefore_X3_precedes
theorem dX3_countBefore_0 : decode cX3_countBefore 0 = .ok (.iconst 0, 1) := by decide +kernel
theorem dX3_countBefore_1 : decode cX3_countBefore 1 = .ok (.istore_n 2, 1) := by decide +kernel
theorem dX3_countBefore_2 : decode cX3_countBefore 2 = .ok (.iconst 0, 1) := by decide +kernel
theorem dX3_countBefore_3 : decode cX3_countBefore 3 = .ok (.istore_n 3, 1) := by decide +kernel
theorem dX3_countBefore_4 : decode cX3_countBefore 4 = .ok (.iload_n 3, 1) := by decide +kernel
theorem dX3_countBefore_5 : decode cX3_countBefore 5 = .ok (.bipush 8, 2) := by decide +kernel
theorem dX3_countBefore_7 : decode cX3_countBefore 7 = .ok (.if_icmp .ge 29, 3) := by decide +kernel
theorem dX3_countBefore_10 : decode cX3_countBefore 10 = .ok (.iload_n 3, 1) := by decide +kernel
theorem dX3_countBefore_11 : decode cX3_countBefore 11 = .ok (.aload_n 0, 1) := by decide +kernel
theorem dX3_countBefore_12 : decode cX3_countBefore 12 = .ok (.getfield 41, 3) := by decide +kernel
theorem dX3_countBefore_15 : decode cX3_countBefore 15 = .ok (.if_icmp .ge 21, 3) := by decide +kernel
theorem dX3_countBefore_18 : decode cX3_countBefore 18 = .ok (.aload_n 0, 1) := by decide +kernel
theorem dX3_countBefore_19 : decode cX3_countBefore 19 = .ok (.iload_n 3, 1) := by decide +kernel
theorem dX3_countBefore_20 : decode cX3_countBefore 20 = .ok (.iload_n 1, 1) := by decide +kernel
theorem dX3_countBefore_21 : decode cX3_countBefore 21 = .ok (.invokevirtual 144, 3) := by decide +kernel
theorem dX3_countBefore_24 : decode cX3_countBefore 24 = .ok (.ifCond .eq 6, 3) := by decide +kernel
theorem dX3_countBefore_27 : decode cX3_countBefore 27 = .ok (.iinc 2 1, 3) := by decide +kernel
theorem dX3_countBefore_30 : decode cX3_countBefore 30 = .ok (.iinc 3 1, 3) := by decide +kernel
theorem dX3_countBefore_33 : decode cX3_countBefore 33 = .ok (.goto (-29), 3) := by decide +kernel
theorem dX3_countBefore_36 : decode cX3_countBefore 36 = .ok (.iload_n 2, 1) := by decide +kernel
theorem dX3_countBefore_37 : decode cX3_countBefore 37 = .ok (.ireturn, 1) := by decide +kernel
set_option maxRecDepth 20000 in
theorem ggX3_precedes_X3_coverOf : GoodIn wsX3_precedes wsX3_coverOf := goodIn_ca (goodIn_r _ [6, 7, 8, 9, 10, 11, 12, 13, 14, 15, 16, 17, 18, 19, 20, 21, 22, 23, 24, 25, 26, 27, 28, 29] (by decide +kernel) (by decide +kernel)) (goodIn_sub (fun _ h => List.mem_cons_of_mem _ (List.mem_append_right _ h)) (by decide +kernel))
set_option maxRecDepth 20000 in
theorem gX3_precedes_X3_coverOf : GoodIn wsX3_precedes (wsV RX3 136 RX3 yX3_coverOf wsX3_coverOf) := goodIn_app (goodIn_of _ (by decide +kernel)) ggX3_precedes_X3_coverOf
theorem dX3_precedes_0 : decode cX3_precedes 0 = .ok (.aload_n 0, 1) := by decide +kernel
theorem dX3_precedes_1 : decode cX3_precedes 1 = .ok (.iload_n 1, 1) := by decide +kernel
theorem dX3_precedes_2 : decode cX3_precedes 2 = .ok (.invokevirtual 136, 3) := by decide +kernel
theorem dX3_precedes_5 : decode cX3_precedes 5 = .ok (.aload_n 0, 1) := by decide +kernel
theorem dX3_precedes_6 : decode cX3_precedes 6 = .ok (.iload_n 2, 1) := by decide +kernel
theorem dX3_precedes_7 : decode cX3_precedes 7 = .ok (.invokevirtual 136, 3) := by decide +kernel
theorem dX3_precedes_10 : decode cX3_precedes 10 = .ok (.if_icmp .eq 22, 3) := by decide +kernel
theorem dX3_precedes_13 : decode cX3_precedes 13 = .ok (.aload_n 0, 1) := by decide +kernel
theorem dX3_precedes_14 : decode cX3_precedes 14 = .ok (.iload_n 1, 1) := by decide +kernel
theorem dX3_precedes_15 : decode cX3_precedes 15 = .ok (.invokevirtual 136, 3) := by decide +kernel
theorem dX3_precedes_18 : decode cX3_precedes 18 = .ok (.aload_n 0, 1) := by decide +kernel
theorem dX3_precedes_19 : decode cX3_precedes 19 = .ok (.iload_n 2, 1) := by decide +kernel
theorem dX3_precedes_20 : decode cX3_precedes 20 = .ok (.invokevirtual 136, 3) := by decide +kernel
theorem dX3_precedes_23 : decode cX3_precedes 23 = .ok (.if_icmp .le 7, 3) := by decide +kernel
theorem dX3_precedes_26 : decode cX3_precedes 26 = .ok (.iconst 1, 1) := by decide +kernel
theorem dX3_precedes_27 : decode cX3_precedes 27 = .ok (.goto 4, 3) := by decide +kernel
theorem dX3_precedes_30 : decode cX3_precedes 30 = .ok (.iconst 0, 1) := by decide +kernel
theorem dX3_precedes_31 : decode cX3_precedes 31 = .ok (.ireturn, 1) := by decide +kernel
theorem dX3_precedes_32 : decode cX3_precedes 32 = .ok (.aload_n 0, 1) := by decide +kernel
theorem dX3_precedes_33 : decode cX3_precedes 33 = .ok (.getfield 9, 3) := by decide +kernel
theorem dX3_precedes_36 : decode cX3_precedes 36 = .ok (.iload_n 1, 1) := by decide +kernel
theorem dX3_precedes_37 : decode cX3_precedes 37 = .ok (.iaload, 1) := by decide +kernel
theorem dX3_precedes_38 : decode cX3_precedes 38 = .ok (.aload_n 0, 1) := by decide +kernel
theorem dX3_precedes_39 : decode cX3_precedes 39 = .ok (.getfield 9, 3) := by decide +kernel
theorem dX3_precedes_42 : decode cX3_precedes 42 = .ok (.iload_n 2, 1) := by decide +kernel
theorem dX3_precedes_43 : decode cX3_precedes 43 = .ok (.iaload, 1) := by decide +kernel
theorem dX3_precedes_44 : decode cX3_precedes 44 = .ok (.if_icmp .eq 24, 3) := by decide +kernel
theorem dX3_precedes_47 : decode cX3_precedes 47 = .ok (.aload_n 0, 1) := by decide +kernel
theorem dX3_precedes_48 : decode cX3_precedes 48 = .ok (.getfield 9, 3) := by decide +kernel
theorem dX3_precedes_51 : decode cX3_precedes 51 = .ok (.iload_n 1, 1) := by decide +kernel
theorem dX3_precedes_52 : decode cX3_precedes 52 = .ok (.iaload, 1) := by decide +kernel
theorem dX3_precedes_53 : decode cX3_precedes 53 = .ok (.aload_n 0, 1) := by decide +kernel
theorem dX3_precedes_54 : decode cX3_precedes 54 = .ok (.getfield 9, 3) := by decide +kernel
theorem dX3_precedes_57 : decode cX3_precedes 57 = .ok (.iload_n 2, 1) := by decide +kernel
theorem dX3_precedes_58 : decode cX3_precedes 58 = .ok (.iaload, 1) := by decide +kernel
theorem dX3_precedes_59 : decode cX3_precedes 59 = .ok (.if_icmp .le 7, 3) := by decide +kernel
theorem dX3_precedes_62 : decode cX3_precedes 62 = .ok (.iconst 1, 1) := by decide +kernel
theorem dX3_precedes_63 : decode cX3_precedes 63 = .ok (.goto 4, 3) := by decide +kernel
theorem dX3_precedes_66 : decode cX3_precedes 66 = .ok (.iconst 0, 1) := by decide +kernel
theorem dX3_precedes_67 : decode cX3_precedes 67 = .ok (.ireturn, 1) := by decide +kernel
theorem dX3_precedes_68 : decode cX3_precedes 68 = .ok (.iload_n 1, 1) := by decide +kernel
theorem dX3_precedes_69 : decode cX3_precedes 69 = .ok (.iload_n 2, 1) := by decide +kernel
theorem dX3_precedes_70 : decode cX3_precedes 70 = .ok (.if_icmp .ge 7, 3) := by decide +kernel
theorem dX3_precedes_73 : decode cX3_precedes 73 = .ok (.iconst 1, 1) := by decide +kernel
theorem dX3_precedes_74 : decode cX3_precedes 74 = .ok (.goto 4, 3) := by decide +kernel
theorem dX3_precedes_77 : decode cX3_precedes 77 = .ok (.iconst 0, 1) := by decide +kernel
theorem dX3_precedes_78 : decode cX3_precedes 78 = .ok (.ireturn, 1) := by decide +kernel
set_option maxRecDepth 20000 in
theorem ggX3_signOf_X3_covererAt : GoodIn wsX3_signOf wsX3_covererAt := goodIn_ca (goodIn_r _ [6, 7, 8, 9, 10, 11, 12, 13, 14, 15, 16, 17, 18, 19, 20, 21, 22] (by decide +kernel) (by decide +kernel)) (goodIn_sub (fun _ h => List.mem_cons_of_mem _ (List.mem_append_right _ h)) (by decide +kernel))
set_option maxRecDepth 20000 in
theorem gX3_signOf_X3_covererAt : GoodIn wsX3_signOf (wsV RX3 75 RX3 yX3_covererAt wsX3_covererAt) := goodIn_app (goodIn_of _ (by decide +kernel)) ggX3_signOf_X3_covererAt
theorem dX3_signOf_0 : decode cX3_signOf 0 = .ok (.aload_n 0, 1) := by decide +kernel
theorem dX3_signOf_1 : decode cX3_signOf 1 = .ok (.iload_n 1, 1) := by decide +kernel
theorem dX3_signOf_2 : decode cX3_signOf 2 = .ok (.invokevirtual 75, 3) := by decide +kernel
theorem dX3_signOf_5 : decode cX3_signOf 5 = .ok (.istore_n 2, 1) := by decide +kernel
theorem dX3_signOf_6 : decode cX3_signOf 6 = .ok (.iload_n 2, 1) := by decide +kernel
theorem dX3_signOf_7 : decode cX3_signOf 7 = .ok (.iconst (-1), 1) := by decide +kernel
theorem dX3_signOf_8 : decode cX3_signOf 8 = .ok (.if_icmp .ne 6, 3) := by decide +kernel
theorem dX3_signOf_11 : decode cX3_signOf 11 = .ok (.bipush 46, 2) := by decide +kernel
theorem dX3_signOf_13 : decode cX3_signOf 13 = .ok (.ireturn, 1) := by decide +kernel
theorem dX3_signOf_14 : decode cX3_signOf 14 = .ok (.aload_n 0, 1) := by decide +kernel
theorem dX3_signOf_15 : decode cX3_signOf 15 = .ok (.getfield 18, 3) := by decide +kernel
theorem dX3_signOf_18 : decode cX3_signOf 18 = .ok (.iload_n 2, 1) := by decide +kernel
theorem dX3_signOf_19 : decode cX3_signOf 19 = .ok (.iaload, 1) := by decide +kernel
theorem dX3_signOf_20 : decode cX3_signOf 20 = .ok (.iload_n 1, 1) := by decide +kernel
theorem dX3_signOf_21 : decode cX3_signOf 21 = .ok (.if_icmp .ne 10, 3) := by decide +kernel
theorem dX3_signOf_24 : decode cX3_signOf 24 = .ok (.bipush 65, 2) := by decide +kernel
theorem dX3_signOf_26 : decode cX3_signOf 26 = .ok (.iload_n 2, 1) := by decide +kernel
theorem dX3_signOf_27 : decode cX3_signOf 27 = .ok (.iadd, 1) := by decide +kernel
theorem dX3_signOf_28 : decode cX3_signOf 28 = .ok (.goto 7, 3) := by decide +kernel
theorem dX3_signOf_31 : decode cX3_signOf 31 = .ok (.bipush 97, 2) := by decide +kernel
theorem dX3_signOf_33 : decode cX3_signOf 33 = .ok (.iload_n 2, 1) := by decide +kernel
theorem dX3_signOf_34 : decode cX3_signOf 34 = .ok (.iadd, 1) := by decide +kernel
theorem dX3_signOf_35 : decode cX3_signOf 35 = .ok (.i2c, 1) := by decide +kernel
theorem dX3_signOf_36 : decode cX3_signOf 36 = .ok (.ireturn, 1) := by decide +kernel
set_option maxRecDepth 20000 in
theorem ggX4_init_X3_init : GoodIn wsX4_init wsX3_init := goodIn_ca (goodIn_r _ [12, 13, 2, 3, 14, 15, 16, 17, 18, 19, 20, 21, 22, 23, 24, 25, 26, 27, 28, 29, 30, 34, 35, 36, 37, 38, 39, 40, 41, 42, 43, 44, 45, 46, 47, 48] (by decide +kernel) (by decide +kernel)) (goodIn_sub (fun _ h => List.mem_cons_of_mem _ (List.mem_append_right _ h)) (by decide +kernel))
set_option maxRecDepth 20000 in
theorem gX4_init_X3_init : GoodIn wsX4_init (wsX3_init) := ggX4_init_X3_init
theorem dX4_init_0 : decode cX4_init 0 = .ok (.aload_n 0, 1) := by decide +kernel
theorem dX4_init_1 : decode cX4_init 1 = .ok (.invokespecial 3, 3) := by decide +kernel
theorem dX4_init_4 : decode cX4_init 4 = .ok (.aload_n 0, 1) := by decide +kernel
theorem dX4_init_5 : decode cX4_init 5 = .ok (.bipush 9, 2) := by decide +kernel
theorem dX4_init_7 : decode cX4_init 7 = .ok (.anewarray 11, 3) := by decide +kernel
theorem dX4_init_10 : decode cX4_init 10 = .ok (.putfield 13, 3) := by decide +kernel
theorem dX4_init_13 : decode cX4_init 13 = .ok (.aload_n 0, 1) := by decide +kernel
theorem dX4_init_14 : decode cX4_init 14 = .ok (.iconst 0, 1) := by decide +kernel
theorem dX4_init_15 : decode cX4_init 15 = .ok (.putfield 17, 3) := by decide +kernel
theorem dX4_init_18 : decode cX4_init 18 = .ok (.aload_n 0, 1) := by decide +kernel
theorem dX4_init_19 : decode cX4_init 19 = .ok (.iconst 0, 1) := by decide +kernel
theorem dX4_init_20 : decode cX4_init 20 = .ok (.putfield 21, 3) := by decide +kernel
theorem dX4_init_23 : decode cX4_init 23 = .ok (.iconst 0, 1) := by decide +kernel
theorem dX4_init_24 : decode cX4_init 24 = .ok (.istore_n 1, 1) := by decide +kernel
theorem dX4_init_25 : decode cX4_init 25 = .ok (.iload_n 1, 1) := by decide +kernel
theorem dX4_init_26 : decode cX4_init 26 = .ok (.bipush 9, 2) := by decide +kernel
theorem dX4_init_28 : decode cX4_init 28 = .ok (.if_icmp .ge 22, 3) := by decide +kernel
theorem dX4_init_31 : decode cX4_init 31 = .ok (.aload_n 0, 1) := by decide +kernel
theorem dX4_init_32 : decode cX4_init 32 = .ok (.getfield 13, 3) := by decide +kernel
theorem dX4_init_35 : decode cX4_init 35 = .ok (.iload_n 1, 1) := by decide +kernel
theorem dX4_init_36 : decode cX4_init 36 = .ok (.new 11, 3) := by decide +kernel
theorem dX4_init_39 : decode cX4_init 39 = .ok (.dup, 1) := by decide +kernel
theorem dX4_init_40 : decode cX4_init 40 = .ok (.invokespecial 24, 3) := by decide +kernel
theorem dX4_init_43 : decode cX4_init 43 = .ok (.aastore, 1) := by decide +kernel
theorem dX4_init_44 : decode cX4_init 44 = .ok (.iinc 1 1, 3) := by decide +kernel
theorem dX4_init_47 : decode cX4_init 47 = .ok (.goto (-22), 3) := by decide +kernel
theorem dX4_init_50 : decode cX4_init 50 = .ok (.return_, 1) := by decide +kernel
set_option maxRecDepth 20000 in
theorem ggX4_remember_X4_prepare : GoodIn wsX4_remember wsX4_prepare := goodIn_r _ [5, 6, 7, 8, 9, 10, 11, 12, 13, 14, 15, 16, 17, 18, 19, 20, 21, 22, 23, 24, 25, 26, 27, 28, 29, 30, 31, 41, 42, 43, 44, 45, 46, 47, 48, 49, 50, 51, 52, 53, 54, 55, 56, 57, 58] (by decide +kernel) (by decide +kernel)
set_option maxRecDepth 20000 in
theorem gX4_remember_X4_prepare : GoodIn wsX4_remember (wsV RX4 25 RX4 yX4_prepare wsX4_prepare) := goodIn_app (goodIn_of _ (by decide +kernel)) ggX4_remember_X4_prepare
set_option maxRecDepth 20000 in
theorem ggX4_remember_X4_keep : GoodIn wsX4_remember wsX4_keep := goodIn_r _ [35, 7, 36, 37, 38, 39, 40, 41, 42, 43] (by decide +kernel) (by decide +kernel)
set_option maxRecDepth 20000 in
theorem gX4_remember_X4_keep : GoodIn wsX4_remember (wsV RX4 29 RX4 yX4_keep wsX4_keep) := goodIn_app (goodIn_of _ (by decide +kernel)) ggX4_remember_X4_keep
theorem dX4_remember_0 : decode cX4_remember 0 = .ok (.aload_n 0, 1) := by decide +kernel
theorem dX4_remember_1 : decode cX4_remember 1 = .ok (.aload_n 1, 1) := by decide +kernel
theorem dX4_remember_2 : decode cX4_remember 2 = .ok (.invokevirtual 25, 3) := by decide +kernel
theorem dX4_remember_5 : decode cX4_remember 5 = .ok (.aload_n 0, 1) := by decide +kernel
theorem dX4_remember_6 : decode cX4_remember 6 = .ok (.invokevirtual 29, 3) := by decide +kernel
theorem dX4_remember_9 : decode cX4_remember 9 = .ok (.return_, 1) := by decide +kernel
set_option maxRecDepth 20000 in
theorem ggX4_prepare_X3_become : GoodIn wsX4_prepare wsX3_become := goodIn_r _ [7, 8, 9, 10, 11, 12, 13, 14, 15, 16, 17, 18, 19, 20, 21, 22, 23, 24, 25, 26, 30, 31, 32, 33, 34, 35, 36, 37, 38, 39, 40, 41, 42, 43, 44] (by decide +kernel) (by decide +kernel)
set_option maxRecDepth 20000 in
theorem gX4_prepare_X3_become : GoodIn wsX4_prepare (wsV RX4 32 RX3 yX3_become wsX3_become) := goodIn_app (goodIn_of _ (by decide +kernel)) ggX4_prepare_X3_become
theorem dX4_prepare_0 : decode cX4_prepare 0 = .ok (.aload_n 0, 1) := by decide +kernel
theorem dX4_prepare_1 : decode cX4_prepare 1 = .ok (.getfield 13, 3) := by decide +kernel
theorem dX4_prepare_4 : decode cX4_prepare 4 = .ok (.aload_n 0, 1) := by decide +kernel
theorem dX4_prepare_5 : decode cX4_prepare 5 = .ok (.getfield 17, 3) := by decide +kernel
theorem dX4_prepare_8 : decode cX4_prepare 8 = .ok (.aaload, 1) := by decide +kernel
theorem dX4_prepare_9 : decode cX4_prepare 9 = .ok (.aload_n 1, 1) := by decide +kernel
theorem dX4_prepare_10 : decode cX4_prepare 10 = .ok (.invokevirtual 32, 3) := by decide +kernel
theorem dX4_prepare_13 : decode cX4_prepare 13 = .ok (.return_, 1) := by decide +kernel
theorem dX4_keep_0 : decode cX4_keep 0 = .ok (.aload_n 0, 1) := by decide +kernel
theorem dX4_keep_1 : decode cX4_keep 1 = .ok (.aload_n 0, 1) := by decide +kernel
theorem dX4_keep_2 : decode cX4_keep 2 = .ok (.getfield 17, 3) := by decide +kernel
theorem dX4_keep_5 : decode cX4_keep 5 = .ok (.iconst 1, 1) := by decide +kernel
theorem dX4_keep_6 : decode cX4_keep 6 = .ok (.iadd, 1) := by decide +kernel
theorem dX4_keep_7 : decode cX4_keep 7 = .ok (.bipush 9, 2) := by decide +kernel
theorem dX4_keep_9 : decode cX4_keep 9 = .ok (.if_icmp .ge 12, 3) := by decide +kernel
theorem dX4_keep_12 : decode cX4_keep 12 = .ok (.aload_n 0, 1) := by decide +kernel
theorem dX4_keep_13 : decode cX4_keep 13 = .ok (.getfield 17, 3) := by decide +kernel
theorem dX4_keep_16 : decode cX4_keep 16 = .ok (.iconst 1, 1) := by decide +kernel
theorem dX4_keep_17 : decode cX4_keep 17 = .ok (.iadd, 1) := by decide +kernel
theorem dX4_keep_18 : decode cX4_keep 18 = .ok (.goto 4, 3) := by decide +kernel
theorem dX4_keep_21 : decode cX4_keep 21 = .ok (.iconst 0, 1) := by decide +kernel
theorem dX4_keep_22 : decode cX4_keep 22 = .ok (.putfield 17, 3) := by decide +kernel
theorem dX4_keep_25 : decode cX4_keep 25 = .ok (.aload_n 0, 1) := by decide +kernel
theorem dX4_keep_26 : decode cX4_keep 26 = .ok (.aload_n 0, 1) := by decide +kernel
theorem dX4_keep_27 : decode cX4_keep 27 = .ok (.getfield 21, 3) := by decide +kernel
theorem dX4_keep_30 : decode cX4_keep 30 = .ok (.iconst 1, 1) := by decide +kernel
theorem dX4_keep_31 : decode cX4_keep 31 = .ok (.iadd, 1) := by decide +kernel
theorem dX4_keep_32 : decode cX4_keep 32 = .ok (.bipush 8, 2) := by decide +kernel
theorem dX4_keep_34 : decode cX4_keep 34 = .ok (.invokestatic 35, 3) := by decide +kernel
theorem dX4_keep_37 : decode cX4_keep 37 = .ok (.putfield 21, 3) := by decide +kernel
theorem dX4_keep_40 : decode cX4_keep 40 = .ok (.return_, 1) := by decide +kernel
set_option maxRecDepth 20000 in
theorem ggX4_takeBack_X3_become : GoodIn wsX4_takeBack wsX3_become := goodIn_r _ [7, 8, 9, 10, 11, 12, 13, 14, 15, 16, 17, 18, 19, 20, 21, 22, 23, 24, 25, 26, 30, 31, 32, 33, 34, 35, 36, 37, 38, 39, 40, 41, 42, 43, 44] (by decide +kernel) (by decide +kernel)
set_option maxRecDepth 20000 in
theorem gX4_takeBack_X3_become : GoodIn wsX4_takeBack (wsV RX4 32 RX3 yX3_become wsX3_become) := goodIn_app (goodIn_of _ (by decide +kernel)) ggX4_takeBack_X3_become
theorem dX4_takeBack_0 : decode cX4_takeBack 0 = .ok (.aload_n 1, 1) := by decide +kernel
theorem dX4_takeBack_1 : decode cX4_takeBack 1 = .ok (.aload_n 0, 1) := by decide +kernel
theorem dX4_takeBack_2 : decode cX4_takeBack 2 = .ok (.getfield 13, 3) := by decide +kernel
theorem dX4_takeBack_5 : decode cX4_takeBack 5 = .ok (.aload_n 0, 1) := by decide +kernel
theorem dX4_takeBack_6 : decode cX4_takeBack 6 = .ok (.getfield 17, 3) := by decide +kernel
theorem dX4_takeBack_9 : decode cX4_takeBack 9 = .ok (.aaload, 1) := by decide +kernel
theorem dX4_takeBack_10 : decode cX4_takeBack 10 = .ok (.invokevirtual 32, 3) := by decide +kernel
theorem dX4_takeBack_13 : decode cX4_takeBack 13 = .ok (.return_, 1) := by decide +kernel
set_option maxRecDepth 20000 in
theorem ggX4_stepBack_X3_become : GoodIn wsX4_stepBack wsX3_become := goodIn_r _ [8, 9, 10, 11, 12, 13, 14, 15, 16, 17, 18, 19, 20, 21, 22, 23, 24, 25, 26, 27, 31, 32, 33, 34, 35, 36, 37, 38, 39, 40, 41, 42, 43, 44, 45] (by decide +kernel) (by decide +kernel)
set_option maxRecDepth 20000 in
theorem gX4_stepBack_X3_become : GoodIn wsX4_stepBack (wsV RX4 32 RX3 yX3_become wsX3_become) := goodIn_app (goodIn_of _ (by decide +kernel)) ggX4_stepBack_X3_become
theorem dX4_stepBack_0 : decode cX4_stepBack 0 = .ok (.aload_n 0, 1) := by decide +kernel
theorem dX4_stepBack_1 : decode cX4_stepBack 1 = .ok (.aload_n 0, 1) := by decide +kernel
theorem dX4_stepBack_2 : decode cX4_stepBack 2 = .ok (.getfield 17, 3) := by decide +kernel
theorem dX4_stepBack_5 : decode cX4_stepBack 5 = .ok (.ifCond .le 12, 3) := by decide +kernel
theorem dX4_stepBack_8 : decode cX4_stepBack 8 = .ok (.aload_n 0, 1) := by decide +kernel
theorem dX4_stepBack_9 : decode cX4_stepBack 9 = .ok (.getfield 17, 3) := by decide +kernel
theorem dX4_stepBack_12 : decode cX4_stepBack 12 = .ok (.iconst 1, 1) := by decide +kernel
theorem dX4_stepBack_13 : decode cX4_stepBack 13 = .ok (.isub, 1) := by decide +kernel
theorem dX4_stepBack_14 : decode cX4_stepBack 14 = .ok (.goto 5, 3) := by decide +kernel
theorem dX4_stepBack_17 : decode cX4_stepBack 17 = .ok (.bipush 8, 2) := by decide +kernel
theorem dX4_stepBack_19 : decode cX4_stepBack 19 = .ok (.putfield 17, 3) := by decide +kernel
theorem dX4_stepBack_22 : decode cX4_stepBack 22 = .ok (.aload_n 1, 1) := by decide +kernel
theorem dX4_stepBack_23 : decode cX4_stepBack 23 = .ok (.aload_n 0, 1) := by decide +kernel
theorem dX4_stepBack_24 : decode cX4_stepBack 24 = .ok (.getfield 13, 3) := by decide +kernel
theorem dX4_stepBack_27 : decode cX4_stepBack 27 = .ok (.aload_n 0, 1) := by decide +kernel
theorem dX4_stepBack_28 : decode cX4_stepBack 28 = .ok (.getfield 17, 3) := by decide +kernel
theorem dX4_stepBack_31 : decode cX4_stepBack 31 = .ok (.aaload, 1) := by decide +kernel
theorem dX4_stepBack_32 : decode cX4_stepBack 32 = .ok (.invokevirtual 32, 3) := by decide +kernel
theorem dX4_stepBack_35 : decode cX4_stepBack 35 = .ok (.aload_n 0, 1) := by decide +kernel
theorem dX4_stepBack_36 : decode cX4_stepBack 36 = .ok (.dup, 1) := by decide +kernel
theorem dX4_stepBack_37 : decode cX4_stepBack 37 = .ok (.getfield 21, 3) := by decide +kernel
theorem dX4_stepBack_40 : decode cX4_stepBack 40 = .ok (.iconst 1, 1) := by decide +kernel
theorem dX4_stepBack_41 : decode cX4_stepBack 41 = .ok (.isub, 1) := by decide +kernel
theorem dX4_stepBack_42 : decode cX4_stepBack 42 = .ok (.putfield 21, 3) := by decide +kernel
theorem dX4_stepBack_45 : decode cX4_stepBack 45 = .ok (.aload_n 0, 1) := by decide +kernel
theorem dX4_stepBack_46 : decode cX4_stepBack 46 = .ok (.getfield 21, 3) := by decide +kernel
theorem dX4_stepBack_49 : decode cX4_stepBack 49 = .ok (.ireturn, 1) := by decide +kernel
theorem dX4_forget_0 : decode cX4_forget 0 = .ok (.aload_n 0, 1) := by decide +kernel
theorem dX4_forget_1 : decode cX4_forget 1 = .ok (.iconst 0, 1) := by decide +kernel
theorem dX4_forget_2 : decode cX4_forget 2 = .ok (.putfield 21, 3) := by decide +kernel
theorem dX4_forget_5 : decode cX4_forget 5 = .ok (.return_, 1) := by decide +kernel
set_option maxRecDepth 20000 in
theorem ggX5_init_X3_init : GoodIn wsX5_init wsX3_init := goodIn_ca (goodIn_r _ [26, 27, 2, 3, 28, 29, 30, 31, 32, 33, 34, 35, 36, 37, 38, 39, 40, 41, 42, 43, 44, 67, 68, 69, 70, 71, 72, 73, 74, 75, 76, 77, 78, 79, 80, 81] (by decide +kernel) (by decide +kernel)) (goodIn_sub (fun _ h => List.mem_cons_of_mem _ (List.mem_append_right _ h)) (by decide +kernel))
set_option maxRecDepth 20000 in
theorem gX5_init_X3_init : GoodIn wsX5_init (wsX3_init) := ggX5_init_X3_init
set_option maxRecDepth 20000 in
theorem ggX5_init_X4_init : GoodIn wsX5_init wsX4_init := goodIn_ca (goodIn_r _ [47, 48, 2, 3, 49, 50, 51, 52, 5, 6, 53, 25, 26, 27, 28, 29, 30, 31, 32, 33, 34, 35, 36, 37, 38, 39, 40, 41, 42, 43, 44, 92, 93, 94, 67, 68, 69, 70, 71, 72, 73, 74, 75, 76, 77, 78, 79, 80, 81] (by decide +kernel) (by decide +kernel)) (goodIn_sub (fun _ h => List.mem_cons_of_mem _ (List.mem_append_right _ h)) (by decide +kernel))
set_option maxRecDepth 20000 in
theorem gX5_init_X4_init : GoodIn wsX5_init (wsX4_init) := ggX5_init_X4_init
set_option maxRecDepth 20000 in
theorem ggX5_init_X2_init : GoodIn wsX5_init wsX2_init := goodIn_r _ [56, 57, 2, 3, 17, 58, 59, 60, 61, 28, 62, 63, 64, 65, 66, 95, 96, 97, 98, 99, 100, 101] (by decide +kernel) (by decide +kernel)
set_option maxRecDepth 20000 in
theorem gX5_init_X2_init : GoodIn wsX5_init (wsX2_init) := ggX5_init_X2_init
theorem dX5_init_0 : decode cX5_init 0 = .ok (.aload_n 0, 1) := by decide +kernel
theorem dX5_init_1 : decode cX5_init 1 = .ok (.invokespecial 1, 3) := by decide +kernel
theorem dX5_init_4 : decode cX5_init 4 = .ok (.aload_n 0, 1) := by decide +kernel
theorem dX5_init_5 : decode cX5_init 5 = .ok (.new 7, 3) := by decide +kernel
theorem dX5_init_8 : decode cX5_init 8 = .ok (.dup, 1) := by decide +kernel
theorem dX5_init_9 : decode cX5_init 9 = .ok (.invokespecial 9, 3) := by decide +kernel
theorem dX5_init_12 : decode cX5_init 12 = .ok (.putfield 10, 3) := by decide +kernel
theorem dX5_init_15 : decode cX5_init 15 = .ok (.aload_n 0, 1) := by decide +kernel
theorem dX5_init_16 : decode cX5_init 16 = .ok (.new 7, 3) := by decide +kernel
theorem dX5_init_19 : decode cX5_init 19 = .ok (.dup, 1) := by decide +kernel
theorem dX5_init_20 : decode cX5_init 20 = .ok (.invokespecial 9, 3) := by decide +kernel
theorem dX5_init_23 : decode cX5_init 23 = .ok (.putfield 16, 3) := by decide +kernel
theorem dX5_init_26 : decode cX5_init 26 = .ok (.aload_n 0, 1) := by decide +kernel
theorem dX5_init_27 : decode cX5_init 27 = .ok (.new 19, 3) := by decide +kernel
theorem dX5_init_30 : decode cX5_init 30 = .ok (.dup, 1) := by decide +kernel
theorem dX5_init_31 : decode cX5_init 31 = .ok (.invokespecial 21, 3) := by decide +kernel
theorem dX5_init_34 : decode cX5_init 34 = .ok (.putfield 22, 3) := by decide +kernel
theorem dX5_init_37 : decode cX5_init 37 = .ok (.aload_n 0, 1) := by decide +kernel
theorem dX5_init_38 : decode cX5_init 38 = .ok (.new 26, 3) := by decide +kernel
theorem dX5_init_41 : decode cX5_init 41 = .ok (.dup, 1) := by decide +kernel
theorem dX5_init_42 : decode cX5_init 42 = .ok (.invokespecial 28, 3) := by decide +kernel
theorem dX5_init_45 : decode cX5_init 45 = .ok (.putfield 29, 3) := by decide +kernel
theorem dX5_init_48 : decode cX5_init 48 = .ok (.aload_n 0, 1) := by decide +kernel
theorem dX5_init_49 : decode cX5_init 49 = .ok (.bipush 10, 2) := by decide +kernel
theorem dX5_init_51 : decode cX5_init 51 = .ok (.newarray .char, 2) := by decide +kernel
theorem dX5_init_53 : decode cX5_init 53 = .ok (.putfield 33, 3) := by decide +kernel
theorem dX5_init_56 : decode cX5_init 56 = .ok (.aload_n 0, 1) := by decide +kernel
theorem dX5_init_57 : decode cX5_init 57 = .ok (.iconst 0, 1) := by decide +kernel
theorem dX5_init_58 : decode cX5_init 58 = .ok (.putfield 37, 3) := by decide +kernel
theorem dX5_init_61 : decode cX5_init 61 = .ok (.aload_n 0, 1) := by decide +kernel
theorem dX5_init_62 : decode cX5_init 62 = .ok (.iconst 0, 1) := by decide +kernel
theorem dX5_init_63 : decode cX5_init 63 = .ok (.putfield 41, 3) := by decide +kernel
theorem dX5_init_66 : decode cX5_init 66 = .ok (.aload_n 0, 1) := by decide +kernel
theorem dX5_init_67 : decode cX5_init 67 = .ok (.iconst (-1), 1) := by decide +kernel
theorem dX5_init_68 : decode cX5_init 68 = .ok (.putfield 45, 3) := by decide +kernel
theorem dX5_init_71 : decode cX5_init 71 = .ok (.aload_n 0, 1) := by decide +kernel
theorem dX5_init_72 : decode cX5_init 72 = .ok (.iconst (-1), 1) := by decide +kernel
theorem dX5_init_73 : decode cX5_init 73 = .ok (.putfield 48, 3) := by decide +kernel
theorem dX5_init_76 : decode cX5_init 76 = .ok (.aload_n 0, 1) := by decide +kernel
theorem dX5_init_77 : decode cX5_init 77 = .ok (.iconst (-1), 1) := by decide +kernel
theorem dX5_init_78 : decode cX5_init 78 = .ok (.putfield 51, 3) := by decide +kernel
theorem dX5_init_81 : decode cX5_init 81 = .ok (.return_, 1) := by decide +kernel
set_option maxRecDepth 20000 in
theorem ggX5_addGuest_X3_refusalOfGuest : GoodIn wsX5_addGuest wsX3_refusalOfGuest := goodIn_r _ [11, 12, 69, 70, 71, 72, 73, 74, 75, 76, 77, 78, 79, 80, 81, 82, 83] (by decide +kernel) (by decide +kernel)
set_option maxRecDepth 20000 in
theorem gX5_addGuest_X3_refusalOfGuest : GoodIn wsX5_addGuest (wsV RX5 54 RX3 yX3_refusalOfGuest wsX3_refusalOfGuest) := goodIn_app (goodIn_of _ (by decide +kernel)) ggX5_addGuest_X3_refusalOfGuest
set_option maxRecDepth 20000 in
theorem ggX5_addGuest_X4_remember : GoodIn wsX5_addGuest wsX4_remember := goodIn_r _ [17, 18, 19, 20, 16, 21, 22, 23, 24, 25, 26, 10, 27, 28, 29, 30, 31, 32, 33, 34, 35, 36, 37, 38, 39, 40, 12, 41, 42, 43, 44, 45, 46, 47, 48, 49, 50, 51, 52, 53, 54, 84, 85, 86, 69, 70, 71, 72, 73, 74, 75, 76, 77, 78, 79, 80, 81, 82, 83] (by decide +kernel) (by decide +kernel)
set_option maxRecDepth 20000 in
theorem gX5_addGuest_X4_remember : GoodIn wsX5_addGuest (wsV RX5 70 RX4 yX4_remember wsX4_remember) := goodIn_app (goodIn_of _ (by decide +kernel)) ggX5_addGuest_X4_remember
set_option maxRecDepth 20000 in
theorem ggX5_addGuest_X3_welcome : GoodIn wsX5_addGuest wsX3_welcome := goodIn_ca (goodIn_r _ [58, 12, 28, 33, 69, 70, 71, 72, 73, 74, 75, 76, 77, 78, 79, 80, 81, 82, 83] (by decide +kernel) (by decide +kernel)) (goodIn_sub (fun _ h => List.mem_cons_of_mem _ (List.mem_append_right _ h)) (by decide +kernel))
set_option maxRecDepth 20000 in
theorem gX5_addGuest_X3_welcome : GoodIn wsX5_addGuest (wsV RX5 74 RX3 yX3_welcome wsX3_welcome) := goodIn_app (goodIn_of _ (by decide +kernel)) ggX5_addGuest_X3_welcome
theorem dX5_addGuest_0 : decode cX5_addGuest 0 = .ok (.aload_n 0, 1) := by decide +kernel
theorem dX5_addGuest_1 : decode cX5_addGuest 1 = .ok (.getfield 10, 3) := by decide +kernel
theorem dX5_addGuest_4 : decode cX5_addGuest 4 = .ok (.iload_n 1, 1) := by decide +kernel
theorem dX5_addGuest_5 : decode cX5_addGuest 5 = .ok (.iload_n 2, 1) := by decide +kernel
theorem dX5_addGuest_6 : decode cX5_addGuest 6 = .ok (.invokevirtual 54, 3) := by decide +kernel
theorem dX5_addGuest_9 : decode cX5_addGuest 9 = .ok (.istore_n 3, 1) := by decide +kernel
theorem dX5_addGuest_10 : decode cX5_addGuest 10 = .ok (.iload_n 3, 1) := by decide +kernel
theorem dX5_addGuest_11 : decode cX5_addGuest 11 = .ok (.iconst 1, 1) := by decide +kernel
theorem dX5_addGuest_12 : decode cX5_addGuest 12 = .ok (.if_icmp .ne 13, 3) := by decide +kernel
theorem dX5_addGuest_15 : decode cX5_addGuest 15 = .ok (.new 58, 3) := by decide +kernel
theorem dX5_addGuest_18 : decode cX5_addGuest 18 = .ok (.dup, 1) := by decide +kernel
theorem dX5_addGuest_19 : decode cX5_addGuest 19 = .ok (.ldc 60, 2) := by decide +kernel
theorem dX5_addGuest_21 : decode cX5_addGuest 21 = .ok (.invokespecial 62, 3) := by decide +kernel
theorem dX5_addGuest_24 : decode cX5_addGuest 24 = .ok (.athrow, 1) := by decide +kernel
theorem dX5_addGuest_25 : decode cX5_addGuest 25 = .ok (.iload_n 3, 1) := by decide +kernel
theorem dX5_addGuest_26 : decode cX5_addGuest 26 = .ok (.ifCond .eq 13, 3) := by decide +kernel
theorem dX5_addGuest_29 : decode cX5_addGuest 29 = .ok (.new 65, 3) := by decide +kernel
theorem dX5_addGuest_32 : decode cX5_addGuest 32 = .ok (.dup, 1) := by decide +kernel
theorem dX5_addGuest_33 : decode cX5_addGuest 33 = .ok (.ldc 67, 2) := by decide +kernel
theorem dX5_addGuest_35 : decode cX5_addGuest 35 = .ok (.invokespecial 69, 3) := by decide +kernel
theorem dX5_addGuest_38 : decode cX5_addGuest 38 = .ok (.athrow, 1) := by decide +kernel
theorem dX5_addGuest_39 : decode cX5_addGuest 39 = .ok (.aload_n 0, 1) := by decide +kernel
theorem dX5_addGuest_40 : decode cX5_addGuest 40 = .ok (.getfield 22, 3) := by decide +kernel
theorem dX5_addGuest_43 : decode cX5_addGuest 43 = .ok (.aload_n 0, 1) := by decide +kernel
theorem dX5_addGuest_44 : decode cX5_addGuest 44 = .ok (.getfield 10, 3) := by decide +kernel
theorem dX5_addGuest_47 : decode cX5_addGuest 47 = .ok (.invokevirtual 70, 3) := by decide +kernel
theorem dX5_addGuest_50 : decode cX5_addGuest 50 = .ok (.aload_n 0, 1) := by decide +kernel
theorem dX5_addGuest_51 : decode cX5_addGuest 51 = .ok (.getfield 10, 3) := by decide +kernel
theorem dX5_addGuest_54 : decode cX5_addGuest 54 = .ok (.iload_n 1, 1) := by decide +kernel
theorem dX5_addGuest_55 : decode cX5_addGuest 55 = .ok (.iload_n 2, 1) := by decide +kernel
theorem dX5_addGuest_56 : decode cX5_addGuest 56 = .ok (.invokevirtual 74, 3) := by decide +kernel
theorem dX5_addGuest_59 : decode cX5_addGuest 59 = .ok (.ireturn, 1) := by decide +kernel
set_option maxRecDepth 20000 in
theorem ggX5_giveFeather_X3_refusalOfFeather : GoodIn wsX5_giveFeather wsX3_refusalOfFeather := goodIn_ca (goodIn_r _ [11, 12, 13, 14, 15, 10, 16, 17, 73, 74, 75, 76, 77, 78, 79, 80, 81, 82, 83, 84, 85, 86, 87] (by decide +kernel) (by decide +kernel)) (goodIn_sub (fun _ h => List.mem_cons_of_mem _ (List.mem_append_right _ h)) (by decide +kernel))
set_option maxRecDepth 20000 in
theorem gX5_giveFeather_X3_refusalOfFeather : GoodIn wsX5_giveFeather (wsV RX5 77 RX3 yX3_refusalOfFeather wsX3_refusalOfFeather) := goodIn_app (goodIn_of _ (by decide +kernel)) ggX5_giveFeather_X3_refusalOfFeather
set_option maxRecDepth 20000 in
theorem ggX5_giveFeather_X4_remember : GoodIn wsX5_giveFeather wsX4_remember := goodIn_r _ [22, 23, 24, 25, 21, 26, 27, 28, 29, 30, 31, 10, 32, 12, 33, 34, 35, 36, 37, 38, 39, 40, 41, 42, 43, 44, 17, 45, 46, 47, 48, 49, 50, 51, 52, 53, 54, 55, 56, 57, 58, 88, 89, 90, 73, 74, 75, 76, 77, 78, 79, 80, 81, 82, 83, 84, 85, 86, 87] (by decide +kernel) (by decide +kernel)
set_option maxRecDepth 20000 in
theorem gX5_giveFeather_X4_remember : GoodIn wsX5_giveFeather (wsV RX5 70 RX4 yX4_remember wsX4_remember) := goodIn_app (goodIn_of _ (by decide +kernel)) ggX5_giveFeather_X4_remember
set_option maxRecDepth 20000 in
theorem ggX5_giveFeather_X3_gainFeather : GoodIn wsX5_giveFeather wsX3_gainFeather := goodIn_ca (goodIn_r _ [62, 12, 73, 74, 75, 76, 77, 78, 79, 80, 81, 82, 83, 84, 85, 86, 87] (by decide +kernel) (by decide +kernel)) (goodIn_sub (fun _ h => List.mem_cons_of_mem _ (List.mem_append_right _ h)) (by decide +kernel))
set_option maxRecDepth 20000 in
theorem gX5_giveFeather_X3_gainFeather : GoodIn wsX5_giveFeather (wsV RX5 88 RX3 yX3_gainFeather wsX3_gainFeather) := goodIn_app (goodIn_of _ (by decide +kernel)) ggX5_giveFeather_X3_gainFeather
theorem dX5_giveFeather_0 : decode cX5_giveFeather 0 = .ok (.aload_n 0, 1) := by decide +kernel
theorem dX5_giveFeather_1 : decode cX5_giveFeather 1 = .ok (.getfield 10, 3) := by decide +kernel
theorem dX5_giveFeather_4 : decode cX5_giveFeather 4 = .ok (.iload_n 1, 1) := by decide +kernel
theorem dX5_giveFeather_5 : decode cX5_giveFeather 5 = .ok (.invokevirtual 77, 3) := by decide +kernel
theorem dX5_giveFeather_8 : decode cX5_giveFeather 8 = .ok (.istore_n 2, 1) := by decide +kernel
theorem dX5_giveFeather_9 : decode cX5_giveFeather 9 = .ok (.iload_n 2, 1) := by decide +kernel
theorem dX5_giveFeather_10 : decode cX5_giveFeather 10 = .ok (.iconst 1, 1) := by decide +kernel
theorem dX5_giveFeather_11 : decode cX5_giveFeather 11 = .ok (.if_icmp .ne 13, 3) := by decide +kernel
theorem dX5_giveFeather_14 : decode cX5_giveFeather 14 = .ok (.new 81, 3) := by decide +kernel
theorem dX5_giveFeather_17 : decode cX5_giveFeather 17 = .ok (.dup, 1) := by decide +kernel
theorem dX5_giveFeather_18 : decode cX5_giveFeather 18 = .ok (.ldc 83, 2) := by decide +kernel
theorem dX5_giveFeather_20 : decode cX5_giveFeather 20 = .ok (.invokespecial 85, 3) := by decide +kernel
theorem dX5_giveFeather_23 : decode cX5_giveFeather 23 = .ok (.athrow, 1) := by decide +kernel
theorem dX5_giveFeather_24 : decode cX5_giveFeather 24 = .ok (.iload_n 2, 1) := by decide +kernel
theorem dX5_giveFeather_25 : decode cX5_giveFeather 25 = .ok (.ifCond .eq 13, 3) := by decide +kernel
theorem dX5_giveFeather_28 : decode cX5_giveFeather 28 = .ok (.new 65, 3) := by decide +kernel
theorem dX5_giveFeather_31 : decode cX5_giveFeather 31 = .ok (.dup, 1) := by decide +kernel
theorem dX5_giveFeather_32 : decode cX5_giveFeather 32 = .ok (.ldc 86, 2) := by decide +kernel
theorem dX5_giveFeather_34 : decode cX5_giveFeather 34 = .ok (.invokespecial 69, 3) := by decide +kernel
theorem dX5_giveFeather_37 : decode cX5_giveFeather 37 = .ok (.athrow, 1) := by decide +kernel
theorem dX5_giveFeather_38 : decode cX5_giveFeather 38 = .ok (.aload_n 0, 1) := by decide +kernel
theorem dX5_giveFeather_39 : decode cX5_giveFeather 39 = .ok (.getfield 22, 3) := by decide +kernel
theorem dX5_giveFeather_42 : decode cX5_giveFeather 42 = .ok (.aload_n 0, 1) := by decide +kernel
theorem dX5_giveFeather_43 : decode cX5_giveFeather 43 = .ok (.getfield 10, 3) := by decide +kernel
theorem dX5_giveFeather_46 : decode cX5_giveFeather 46 = .ok (.invokevirtual 70, 3) := by decide +kernel
theorem dX5_giveFeather_49 : decode cX5_giveFeather 49 = .ok (.aload_n 0, 1) := by decide +kernel
theorem dX5_giveFeather_50 : decode cX5_giveFeather 50 = .ok (.getfield 10, 3) := by decide +kernel
theorem dX5_giveFeather_53 : decode cX5_giveFeather 53 = .ok (.iload_n 1, 1) := by decide +kernel
theorem dX5_giveFeather_54 : decode cX5_giveFeather 54 = .ok (.invokevirtual 88, 3) := by decide +kernel
theorem dX5_giveFeather_57 : decode cX5_giveFeather 57 = .ok (.ireturn, 1) := by decide +kernel
set_option maxRecDepth 20000 in
theorem ggX5_placeHat_X3_refusalOfHat : GoodIn wsX5_placeHat wsX3_refusalOfHat := goodIn_ca (goodIn_r _ [13, 14, 15, 16, 12, 17, 18, 19, 20, 21, 22, 23, 24, 25, 26, 27, 28, 29, 30, 31, 100, 101, 102, 103, 104, 105, 106, 107, 108, 109, 110, 111, 112, 113, 114] (by decide +kernel) (by decide +kernel)) (goodIn_sub (fun _ h => List.mem_cons_of_mem _ (List.mem_append_right _ h)) (by decide +kernel))
set_option maxRecDepth 20000 in
theorem gX5_placeHat_X3_refusalOfHat : GoodIn wsX5_placeHat (wsV RX5 91 RX3 yX3_refusalOfHat wsX3_refusalOfHat) := goodIn_app (goodIn_of _ (by decide +kernel)) ggX5_placeHat_X3_refusalOfHat
set_option maxRecDepth 20000 in
theorem ggX5_placeHat_X4_remember : GoodIn wsX5_placeHat wsX4_remember := goodIn_r _ [36, 37, 38, 39, 35, 40, 41, 42, 43, 44, 45, 12, 46, 47, 48, 49, 50, 51, 52, 26, 53, 31, 54, 55, 56, 57, 18, 58, 59, 60, 61, 62, 63, 64, 65, 66, 67, 68, 69, 70, 71, 115, 116, 117, 100, 101, 102, 103, 104, 105, 106, 107, 108, 109, 110, 111, 112, 113, 114] (by decide +kernel) (by decide +kernel)
set_option maxRecDepth 20000 in
theorem gX5_placeHat_X4_remember : GoodIn wsX5_placeHat (wsV RX5 70 RX4 yX4_remember wsX4_remember) := goodIn_app (goodIn_of _ (by decide +kernel)) ggX5_placeHat_X4_remember
set_option maxRecDepth 20000 in
theorem ggX5_placeHat_X3_putHat : GoodIn wsX5_placeHat wsX3_putHat := goodIn_ca (goodIn_r _ [75, 26, 53, 58, 31, 52, 76, 77, 78, 12, 79, 80, 81, 82, 83, 84, 85, 86, 87, 88, 89, 100, 101, 102, 103, 104, 105, 106, 107, 108, 109, 110, 111, 112, 113, 114] (by decide +kernel) (by decide +kernel)) (goodIn_sub (fun _ h => List.mem_cons_of_mem _ (List.mem_append_right _ h)) (by decide +kernel))
set_option maxRecDepth 20000 in
theorem gX5_placeHat_X3_putHat : GoodIn wsX5_placeHat (wsV RX5 103 RX3 yX3_putHat wsX3_putHat) := goodIn_app (goodIn_of _ (by decide +kernel)) ggX5_placeHat_X3_putHat
theorem dX5_placeHat_0 : decode cX5_placeHat 0 = .ok (.aload_n 0, 1) := by decide +kernel
theorem dX5_placeHat_1 : decode cX5_placeHat 1 = .ok (.getfield 10, 3) := by decide +kernel
theorem dX5_placeHat_4 : decode cX5_placeHat 4 = .ok (.iload_n 1, 1) := by decide +kernel
theorem dX5_placeHat_5 : decode cX5_placeHat 5 = .ok (.iload_n 2, 1) := by decide +kernel
theorem dX5_placeHat_6 : decode cX5_placeHat 6 = .ok (.invokevirtual 91, 3) := by decide +kernel
theorem dX5_placeHat_9 : decode cX5_placeHat 9 = .ok (.istore_n 3, 1) := by decide +kernel
theorem dX5_placeHat_10 : decode cX5_placeHat 10 = .ok (.iload_n 3, 1) := by decide +kernel
theorem dX5_placeHat_11 : decode cX5_placeHat 11 = .ok (.iconst 1, 1) := by decide +kernel
theorem dX5_placeHat_12 : decode cX5_placeHat 12 = .ok (.if_icmp .ne 13, 3) := by decide +kernel
theorem dX5_placeHat_15 : decode cX5_placeHat 15 = .ok (.new 81, 3) := by decide +kernel
theorem dX5_placeHat_18 : decode cX5_placeHat 18 = .ok (.dup, 1) := by decide +kernel
theorem dX5_placeHat_19 : decode cX5_placeHat 19 = .ok (.ldc 94, 2) := by decide +kernel
theorem dX5_placeHat_21 : decode cX5_placeHat 21 = .ok (.invokespecial 85, 3) := by decide +kernel
theorem dX5_placeHat_24 : decode cX5_placeHat 24 = .ok (.athrow, 1) := by decide +kernel
theorem dX5_placeHat_25 : decode cX5_placeHat 25 = .ok (.iload_n 3, 1) := by decide +kernel
theorem dX5_placeHat_26 : decode cX5_placeHat 26 = .ok (.iconst 2, 1) := by decide +kernel
theorem dX5_placeHat_27 : decode cX5_placeHat 27 = .ok (.if_icmp .ne 13, 3) := by decide +kernel
theorem dX5_placeHat_30 : decode cX5_placeHat 30 = .ok (.new 65, 3) := by decide +kernel
theorem dX5_placeHat_33 : decode cX5_placeHat 33 = .ok (.dup, 1) := by decide +kernel
theorem dX5_placeHat_34 : decode cX5_placeHat 34 = .ok (.ldc 96, 2) := by decide +kernel
theorem dX5_placeHat_36 : decode cX5_placeHat 36 = .ok (.invokespecial 69, 3) := by decide +kernel
theorem dX5_placeHat_39 : decode cX5_placeHat 39 = .ok (.athrow, 1) := by decide +kernel
theorem dX5_placeHat_40 : decode cX5_placeHat 40 = .ok (.iload_n 3, 1) := by decide +kernel
theorem dX5_placeHat_41 : decode cX5_placeHat 41 = .ok (.ifCond .eq 13, 3) := by decide +kernel
theorem dX5_placeHat_44 : decode cX5_placeHat 44 = .ok (.new 98, 3) := by decide +kernel
theorem dX5_placeHat_47 : decode cX5_placeHat 47 = .ok (.dup, 1) := by decide +kernel
theorem dX5_placeHat_48 : decode cX5_placeHat 48 = .ok (.ldc 100, 2) := by decide +kernel
theorem dX5_placeHat_50 : decode cX5_placeHat 50 = .ok (.invokespecial 102, 3) := by decide +kernel
theorem dX5_placeHat_53 : decode cX5_placeHat 53 = .ok (.athrow, 1) := by decide +kernel
theorem dX5_placeHat_54 : decode cX5_placeHat 54 = .ok (.aload_n 0, 1) := by decide +kernel
theorem dX5_placeHat_55 : decode cX5_placeHat 55 = .ok (.getfield 22, 3) := by decide +kernel
theorem dX5_placeHat_58 : decode cX5_placeHat 58 = .ok (.aload_n 0, 1) := by decide +kernel
theorem dX5_placeHat_59 : decode cX5_placeHat 59 = .ok (.getfield 10, 3) := by decide +kernel
theorem dX5_placeHat_62 : decode cX5_placeHat 62 = .ok (.invokevirtual 70, 3) := by decide +kernel
theorem dX5_placeHat_65 : decode cX5_placeHat 65 = .ok (.aload_n 0, 1) := by decide +kernel
theorem dX5_placeHat_66 : decode cX5_placeHat 66 = .ok (.getfield 10, 3) := by decide +kernel
theorem dX5_placeHat_69 : decode cX5_placeHat 69 = .ok (.iload_n 1, 1) := by decide +kernel
theorem dX5_placeHat_70 : decode cX5_placeHat 70 = .ok (.iload_n 2, 1) := by decide +kernel
theorem dX5_placeHat_71 : decode cX5_placeHat 71 = .ok (.invokevirtual 103, 3) := by decide +kernel
theorem dX5_placeHat_74 : decode cX5_placeHat 74 = .ok (.ireturn, 1) := by decide +kernel
set_option maxRecDepth 20000 in
theorem ggX5_removeHat_X5_requirePlacedHat : GoodIn wsX5_removeHat wsX5_requirePlacedHat := goodIn_ca (goodIn_ca (goodIn_ca (goodIn_r _ [7, 8, 9, 10, 11, 2, 12, 13, 14, 15, 16, 17, 18, 19, 20, 21, 22, 23, 24, 25, 26, 114, 115, 116, 117, 118, 119, 120, 121, 122, 123, 124, 125, 126, 127, 128, 129, 130, 131, 132, 133, 134, 135, 136, 137, 138] (by decide +kernel) (by decide +kernel)) (goodIn_sub (fun _ h => List.mem_cons_of_mem _ (List.mem_append_left _ (List.mem_append_left _ (List.mem_append_right _ h)))) (by decide +kernel))) (goodIn_sub (fun _ h => List.mem_cons_of_mem _ (List.mem_append_left _ (List.mem_append_right _ h))) (by decide +kernel))) (goodIn_sub (fun _ h => List.mem_cons_of_mem _ (List.mem_append_right _ h)) (by decide +kernel))
set_option maxRecDepth 20000 in
theorem gX5_removeHat_X5_requirePlacedHat : GoodIn wsX5_removeHat (wsV RX5 106 RX5 yX5_requirePlacedHat wsX5_requirePlacedHat) := goodIn_app (goodIn_of _ (by decide +kernel)) ggX5_removeHat_X5_requirePlacedHat
set_option maxRecDepth 20000 in
theorem ggX5_removeHat_X4_remember : GoodIn wsX5_removeHat wsX4_remember := goodIn_r _ [31, 32, 33, 34, 30, 35, 36, 37, 38, 39, 40, 15, 41, 42, 43, 44, 45, 46, 47, 26, 48, 49, 50, 51, 52, 53, 21, 54, 55, 56, 57, 58, 59, 60, 61, 62, 63, 64, 65, 66, 67, 139, 140, 141, 124, 125, 126, 127, 128, 129, 130, 131, 132, 133, 134, 135, 136, 137, 138] (by decide +kernel) (by decide +kernel)
set_option maxRecDepth 20000 in
theorem gX5_removeHat_X4_remember : GoodIn wsX5_removeHat (wsV RX5 70 RX4 yX4_remember wsX4_remember) := goodIn_app (goodIn_of _ (by decide +kernel)) ggX5_removeHat_X4_remember
set_option maxRecDepth 20000 in
theorem ggX5_removeHat_X3_giveChairsBack : GoodIn wsX5_removeHat wsX3_giveChairsBack := goodIn_ca (goodIn_r _ [71, 72, 73, 74, 15, 75, 49, 26, 76, 77, 78, 79, 80, 81, 82, 83, 84, 85, 86, 87, 57, 56, 88, 89, 90, 91, 50, 51, 92, 93, 94, 95, 22, 23, 24, 25, 96, 97, 98, 99, 48, 54, 47, 100, 101, 102, 103, 104, 105, 106, 107, 108, 109, 110, 111, 112, 113, 124, 125, 126, 127, 128, 129, 130, 131, 132, 133, 134, 135, 136, 137, 138] (by decide +kernel) (by decide +kernel)) (goodIn_sub (fun _ h => List.mem_cons_of_mem _ (List.mem_append_right _ h)) (by decide +kernel))
set_option maxRecDepth 20000 in
theorem gX5_removeHat_X3_giveChairsBack : GoodIn wsX5_removeHat (wsV RX5 110 RX3 yX3_giveChairsBack wsX3_giveChairsBack) := goodIn_app (goodIn_of _ (by decide +kernel)) ggX5_removeHat_X3_giveChairsBack
theorem dX5_removeHat_0 : decode cX5_removeHat 0 = .ok (.aload_n 0, 1) := by decide +kernel
theorem dX5_removeHat_1 : decode cX5_removeHat 1 = .ok (.iload_n 1, 1) := by decide +kernel
theorem dX5_removeHat_2 : decode cX5_removeHat 2 = .ok (.invokevirtual 106, 3) := by decide +kernel
theorem dX5_removeHat_5 : decode cX5_removeHat 5 = .ok (.aload_n 0, 1) := by decide +kernel
theorem dX5_removeHat_6 : decode cX5_removeHat 6 = .ok (.getfield 22, 3) := by decide +kernel
theorem dX5_removeHat_9 : decode cX5_removeHat 9 = .ok (.aload_n 0, 1) := by decide +kernel
theorem dX5_removeHat_10 : decode cX5_removeHat 10 = .ok (.getfield 10, 3) := by decide +kernel
theorem dX5_removeHat_13 : decode cX5_removeHat 13 = .ok (.invokevirtual 70, 3) := by decide +kernel
theorem dX5_removeHat_16 : decode cX5_removeHat 16 = .ok (.aload_n 0, 1) := by decide +kernel
theorem dX5_removeHat_17 : decode cX5_removeHat 17 = .ok (.getfield 10, 3) := by decide +kernel
theorem dX5_removeHat_20 : decode cX5_removeHat 20 = .ok (.iload_n 1, 1) := by decide +kernel
theorem dX5_removeHat_21 : decode cX5_removeHat 21 = .ok (.invokevirtual 110, 3) := by decide +kernel
theorem dX5_removeHat_24 : decode cX5_removeHat 24 = .ok (.ireturn, 1) := by decide +kernel
set_option maxRecDepth 20000 in
theorem ggX5_touchHat_X5_requirePlacedHat : GoodIn wsX5_touchHat wsX5_requirePlacedHat := goodIn_ca (goodIn_ca (goodIn_ca (goodIn_r _ [7, 8, 9, 10, 11, 2, 12, 13, 14, 15, 16, 17, 18, 19, 20, 21, 22, 23, 24, 25, 26, 76, 77, 78, 79, 80, 81, 82, 83, 84, 85, 86, 87, 88, 89, 90, 91, 92, 93, 94, 95, 96, 97, 98, 99, 100] (by decide +kernel) (by decide +kernel)) (goodIn_sub (fun _ h => List.mem_cons_of_mem _ (List.mem_append_left _ (List.mem_append_left _ (List.mem_append_right _ h)))) (by decide +kernel))) (goodIn_sub (fun _ h => List.mem_cons_of_mem _ (List.mem_append_left _ (List.mem_append_right _ h))) (by decide +kernel))) (goodIn_sub (fun _ h => List.mem_cons_of_mem _ (List.mem_append_right _ h)) (by decide +kernel))
set_option maxRecDepth 20000 in
theorem gX5_touchHat_X5_requirePlacedHat : GoodIn wsX5_touchHat (wsV RX5 106 RX5 yX5_requirePlacedHat wsX5_requirePlacedHat) := goodIn_app (goodIn_of _ (by decide +kernel)) ggX5_touchHat_X5_requirePlacedHat
set_option maxRecDepth 20000 in
theorem ggX5_touchHat_X4_remember : GoodIn wsX5_touchHat wsX4_remember := goodIn_r _ [31, 32, 33, 34, 30, 35, 36, 37, 38, 39, 40, 15, 41, 42, 43, 44, 45, 46, 47, 26, 48, 49, 50, 51, 52, 53, 21, 54, 55, 56, 57, 58, 59, 60, 61, 62, 63, 64, 65, 66, 67, 101, 102, 103, 86, 87, 88, 89, 90, 91, 92, 93, 94, 95, 96, 97, 98, 99, 100] (by decide +kernel) (by decide +kernel)
set_option maxRecDepth 20000 in
theorem gX5_touchHat_X4_remember : GoodIn wsX5_touchHat (wsV RX5 70 RX4 yX4_remember wsX4_remember) := goodIn_app (goodIn_of _ (by decide +kernel)) ggX5_touchHat_X4_remember
set_option maxRecDepth 20000 in
theorem ggX5_touchHat_X3_startIdleTimeAgain : GoodIn wsX5_touchHat wsX3_startIdleTimeAgain := goodIn_ca (goodIn_r _ [71, 48, 54, 72, 73, 74, 15, 75, 86, 87, 88, 89, 90, 91, 92, 93, 94, 95, 96, 97, 98, 99, 100] (by decide +kernel) (by decide +kernel)) (goodIn_sub (fun _ h => List.mem_cons_of_mem _ (List.mem_append_right _ h)) (by decide +kernel))
set_option maxRecDepth 20000 in
theorem gX5_touchHat_X3_startIdleTimeAgain : GoodIn wsX5_touchHat (wsV RX5 113 RX3 yX3_startIdleTimeAgain wsX3_startIdleTimeAgain) := goodIn_app (goodIn_of _ (by decide +kernel)) ggX5_touchHat_X3_startIdleTimeAgain
theorem dX5_touchHat_0 : decode cX5_touchHat 0 = .ok (.aload_n 0, 1) := by decide +kernel
theorem dX5_touchHat_1 : decode cX5_touchHat 1 = .ok (.iload_n 1, 1) := by decide +kernel
theorem dX5_touchHat_2 : decode cX5_touchHat 2 = .ok (.invokevirtual 106, 3) := by decide +kernel
theorem dX5_touchHat_5 : decode cX5_touchHat 5 = .ok (.aload_n 0, 1) := by decide +kernel
theorem dX5_touchHat_6 : decode cX5_touchHat 6 = .ok (.getfield 22, 3) := by decide +kernel
theorem dX5_touchHat_9 : decode cX5_touchHat 9 = .ok (.aload_n 0, 1) := by decide +kernel
theorem dX5_touchHat_10 : decode cX5_touchHat 10 = .ok (.getfield 10, 3) := by decide +kernel
theorem dX5_touchHat_13 : decode cX5_touchHat 13 = .ok (.invokevirtual 70, 3) := by decide +kernel
theorem dX5_touchHat_16 : decode cX5_touchHat 16 = .ok (.aload_n 0, 1) := by decide +kernel
theorem dX5_touchHat_17 : decode cX5_touchHat 17 = .ok (.getfield 10, 3) := by decide +kernel
theorem dX5_touchHat_20 : decode cX5_touchHat 20 = .ok (.iload_n 1, 1) := by decide +kernel
theorem dX5_touchHat_21 : decode cX5_touchHat 21 = .ok (.invokevirtual 113, 3) := by decide +kernel
theorem dX5_touchHat_24 : decode cX5_touchHat 24 = .ok (.ireturn, 1) := by decide +kernel
theorem dX5_guestCount_0 : decode cX5_guestCount 0 = .ok (.aload_n 0, 1) := by decide +kernel
theorem dX5_guestCount_1 : decode cX5_guestCount 1 = .ok (.getfield 10, 3) := by decide +kernel
theorem dX5_guestCount_4 : decode cX5_guestCount 4 = .ok (.getfield 116, 3) := by decide +kernel
theorem dX5_guestCount_7 : decode cX5_guestCount 7 = .ok (.ireturn, 1) := by decide +kernel
set_option maxRecDepth 20000 in
theorem ggX5_feathers_X5_requireGuest : GoodIn wsX5_feathers wsX5_requireGuest := goodIn_ca (goodIn_r _ [7, 8, 9, 1, 10, 11, 12, 13, 14, 15, 16, 17, 18, 19, 20, 21, 22, 23, 24, 25, 26, 27, 28, 29, 30, 31, 32, 33, 34, 35, 36, 37, 38, 39, 40] (by decide +kernel) (by decide +kernel)) (goodIn_sub (fun _ h => List.mem_cons_of_mem _ (List.mem_append_right _ h)) (by decide +kernel))
set_option maxRecDepth 20000 in
theorem gX5_feathers_X5_requireGuest : GoodIn wsX5_feathers (wsV RX5 119 RX5 yX5_requireGuest wsX5_requireGuest) := goodIn_app (goodIn_of _ (by decide +kernel)) ggX5_feathers_X5_requireGuest
theorem dX5_feathers_0 : decode cX5_feathers 0 = .ok (.aload_n 0, 1) := by decide +kernel
theorem dX5_feathers_1 : decode cX5_feathers 1 = .ok (.iload_n 1, 1) := by decide +kernel
theorem dX5_feathers_2 : decode cX5_feathers 2 = .ok (.invokevirtual 119, 3) := by decide +kernel
theorem dX5_feathers_5 : decode cX5_feathers 5 = .ok (.aload_n 0, 1) := by decide +kernel
theorem dX5_feathers_6 : decode cX5_feathers 6 = .ok (.getfield 10, 3) := by decide +kernel
theorem dX5_feathers_9 : decode cX5_feathers 9 = .ok (.getfield 122, 3) := by decide +kernel
theorem dX5_feathers_12 : decode cX5_feathers 12 = .ok (.iload_n 1, 1) := by decide +kernel
theorem dX5_feathers_13 : decode cX5_feathers 13 = .ok (.iaload, 1) := by decide +kernel
theorem dX5_feathers_14 : decode cX5_feathers 14 = .ok (.ireturn, 1) := by decide +kernel
set_option maxRecDepth 20000 in
theorem ggX5_brim_X5_requireGuest : GoodIn wsX5_brim wsX5_requireGuest := goodIn_ca (goodIn_r _ [7, 8, 9, 1, 10, 11, 12, 13, 14, 15, 16, 17, 18, 19, 20, 21, 22, 23, 24, 25, 26, 27, 28, 29, 30, 31, 32, 33, 34, 35, 36, 37, 38, 39, 40] (by decide +kernel) (by decide +kernel)) (goodIn_sub (fun _ h => List.mem_cons_of_mem _ (List.mem_append_right _ h)) (by decide +kernel))
set_option maxRecDepth 20000 in
theorem gX5_brim_X5_requireGuest : GoodIn wsX5_brim (wsV RX5 119 RX5 yX5_requireGuest wsX5_requireGuest) := goodIn_app (goodIn_of _ (by decide +kernel)) ggX5_brim_X5_requireGuest
theorem dX5_brim_0 : decode cX5_brim 0 = .ok (.aload_n 0, 1) := by decide +kernel
theorem dX5_brim_1 : decode cX5_brim 1 = .ok (.iload_n 1, 1) := by decide +kernel
theorem dX5_brim_2 : decode cX5_brim 2 = .ok (.invokevirtual 119, 3) := by decide +kernel
theorem dX5_brim_5 : decode cX5_brim 5 = .ok (.aload_n 0, 1) := by decide +kernel
theorem dX5_brim_6 : decode cX5_brim 6 = .ok (.getfield 10, 3) := by decide +kernel
theorem dX5_brim_9 : decode cX5_brim 9 = .ok (.getfield 126, 3) := by decide +kernel
theorem dX5_brim_12 : decode cX5_brim 12 = .ok (.iload_n 1, 1) := by decide +kernel
theorem dX5_brim_13 : decode cX5_brim 13 = .ok (.iaload, 1) := by decide +kernel
theorem dX5_brim_14 : decode cX5_brim 14 = .ok (.ireturn, 1) := by decide +kernel
set_option maxRecDepth 20000 in
theorem ggX5_isPlaced_X5_requireGuest : GoodIn wsX5_isPlaced wsX5_requireGuest := goodIn_ca (goodIn_r _ [6, 7, 8, 1, 9, 10, 11, 12, 13, 14, 20, 21, 22, 23, 24, 25, 26, 27, 28, 29, 30, 31, 32, 33, 34, 35, 36, 37, 38, 39, 40, 41, 42, 43, 44] (by decide +kernel) (by decide +kernel)) (goodIn_sub (fun _ h => List.mem_cons_of_mem _ (List.mem_append_left _ (List.mem_append_right _ h))) (by decide +kernel))
set_option maxRecDepth 20000 in
theorem gX5_isPlaced_X5_requireGuest : GoodIn wsX5_isPlaced (wsV RX5 119 RX5 yX5_requireGuest wsX5_requireGuest) := goodIn_app (goodIn_of _ (by decide +kernel)) ggX5_isPlaced_X5_requireGuest
set_option maxRecDepth 20000 in
theorem ggX5_isPlaced_X3_hatIsPlaced : GoodIn wsX5_isPlaced wsX3_hatIsPlaced := goodIn_ca (goodIn_r _ [18, 19, 30, 31, 32, 33, 34, 35, 36, 37, 38, 39, 40, 41, 42, 43, 44] (by decide +kernel) (by decide +kernel)) (goodIn_sub (fun _ h => List.mem_cons_of_mem _ (List.mem_append_right _ h)) (by decide +kernel))
set_option maxRecDepth 20000 in
theorem gX5_isPlaced_X3_hatIsPlaced : GoodIn wsX5_isPlaced (wsV RX5 129 RX3 yX3_hatIsPlaced wsX3_hatIsPlaced) := goodIn_app (goodIn_of _ (by decide +kernel)) ggX5_isPlaced_X3_hatIsPlaced
theorem dX5_isPlaced_0 : decode cX5_isPlaced 0 = .ok (.aload_n 0, 1) := by decide +kernel
theorem dX5_isPlaced_1 : decode cX5_isPlaced 1 = .ok (.iload_n 1, 1) := by decide +kernel
theorem dX5_isPlaced_2 : decode cX5_isPlaced 2 = .ok (.invokevirtual 119, 3) := by decide +kernel
theorem dX5_isPlaced_5 : decode cX5_isPlaced 5 = .ok (.aload_n 0, 1) := by decide +kernel
theorem dX5_isPlaced_6 : decode cX5_isPlaced 6 = .ok (.getfield 10, 3) := by decide +kernel
theorem dX5_isPlaced_9 : decode cX5_isPlaced 9 = .ok (.iload_n 1, 1) := by decide +kernel
theorem dX5_isPlaced_10 : decode cX5_isPlaced 10 = .ok (.invokevirtual 129, 3) := by decide +kernel
theorem dX5_isPlaced_13 : decode cX5_isPlaced 13 = .ok (.ireturn, 1) := by decide +kernel
set_option maxRecDepth 20000 in
theorem ggX5_hatChair_X5_requirePlacedHat : GoodIn wsX5_hatChair wsX5_requirePlacedHat := goodIn_ca (goodIn_ca (goodIn_ca (goodIn_r _ [7, 8, 9, 10, 11, 1, 12, 13, 14, 15, 16, 17, 18, 19, 20, 21, 22, 23, 24, 25, 26, 27, 28, 29, 30, 31, 32, 33, 34, 35, 36, 37, 38, 39, 40, 41, 42, 43, 44, 45, 46, 47, 48, 49, 50, 51] (by decide +kernel) (by decide +kernel)) (goodIn_sub (fun _ h => List.mem_cons_of_mem _ (List.mem_append_left _ (List.mem_append_right _ h))) (by decide +kernel))) (goodIn_sub (fun _ h => List.mem_cons_of_mem _ (List.mem_append_right _ h)) (by decide +kernel))) (goodIn_sub (fun _ h => List.mem_cons_of_mem _ (List.mem_append_left _ (List.mem_append_left _ (List.mem_append_right _ h)))) (by decide +kernel))
set_option maxRecDepth 20000 in
theorem gX5_hatChair_X5_requirePlacedHat : GoodIn wsX5_hatChair (wsV RX5 106 RX5 yX5_requirePlacedHat wsX5_requirePlacedHat) := goodIn_app (goodIn_of _ (by decide +kernel)) ggX5_hatChair_X5_requirePlacedHat
theorem dX5_hatChair_0 : decode cX5_hatChair 0 = .ok (.aload_n 0, 1) := by decide +kernel
theorem dX5_hatChair_1 : decode cX5_hatChair 1 = .ok (.iload_n 1, 1) := by decide +kernel
theorem dX5_hatChair_2 : decode cX5_hatChair 2 = .ok (.invokevirtual 106, 3) := by decide +kernel
theorem dX5_hatChair_5 : decode cX5_hatChair 5 = .ok (.aload_n 0, 1) := by decide +kernel
theorem dX5_hatChair_6 : decode cX5_hatChair 6 = .ok (.getfield 10, 3) := by decide +kernel
theorem dX5_hatChair_9 : decode cX5_hatChair 9 = .ok (.getfield 133, 3) := by decide +kernel
theorem dX5_hatChair_12 : decode cX5_hatChair 12 = .ok (.iload_n 1, 1) := by decide +kernel
theorem dX5_hatChair_13 : decode cX5_hatChair 13 = .ok (.iaload, 1) := by decide +kernel
theorem dX5_hatChair_14 : decode cX5_hatChair 14 = .ok (.ireturn, 1) := by decide +kernel
set_option maxRecDepth 20000 in
theorem ggX5_coverSize_X5_requireGuest : GoodIn wsX5_coverSize wsX5_requireGuest := goodIn_ca (goodIn_r _ [6, 7, 8, 1, 9, 10, 11, 12, 13, 14, 27, 28, 29, 30, 31, 32, 33, 34, 35, 36, 37, 38, 39, 40, 41, 42, 43, 44, 45, 46, 47, 48, 49, 50, 51] (by decide +kernel) (by decide +kernel)) (goodIn_sub (fun _ h => List.mem_cons_of_mem _ (List.mem_append_left _ (List.mem_append_right _ h))) (by decide +kernel))
set_option maxRecDepth 20000 in
theorem gX5_coverSize_X5_requireGuest : GoodIn wsX5_coverSize (wsV RX5 119 RX5 yX5_requireGuest wsX5_requireGuest) := goodIn_app (goodIn_of _ (by decide +kernel)) ggX5_coverSize_X5_requireGuest
set_option maxRecDepth 20000 in
theorem ggX5_coverSize_X3_coverOf : GoodIn wsX5_coverSize wsX3_coverOf := goodIn_ca (goodIn_r _ [18, 19, 20, 21, 22, 23, 24, 25, 26, 37, 38, 39, 40, 41, 42, 43, 44, 45, 46, 47, 48, 49, 50, 51] (by decide +kernel) (by decide +kernel)) (goodIn_sub (fun _ h => List.mem_cons_of_mem _ (List.mem_append_right _ h)) (by decide +kernel))
set_option maxRecDepth 20000 in
theorem gX5_coverSize_X3_coverOf : GoodIn wsX5_coverSize (wsV RX5 136 RX3 yX3_coverOf wsX3_coverOf) := goodIn_app (goodIn_of _ (by decide +kernel)) ggX5_coverSize_X3_coverOf
theorem dX5_coverSize_0 : decode cX5_coverSize 0 = .ok (.aload_n 0, 1) := by decide +kernel
theorem dX5_coverSize_1 : decode cX5_coverSize 1 = .ok (.iload_n 1, 1) := by decide +kernel
theorem dX5_coverSize_2 : decode cX5_coverSize 2 = .ok (.invokevirtual 119, 3) := by decide +kernel
theorem dX5_coverSize_5 : decode cX5_coverSize 5 = .ok (.aload_n 0, 1) := by decide +kernel
theorem dX5_coverSize_6 : decode cX5_coverSize 6 = .ok (.getfield 10, 3) := by decide +kernel
theorem dX5_coverSize_9 : decode cX5_coverSize 9 = .ok (.iload_n 1, 1) := by decide +kernel
theorem dX5_coverSize_10 : decode cX5_coverSize 10 = .ok (.invokevirtual 136, 3) := by decide +kernel
theorem dX5_coverSize_13 : decode cX5_coverSize 13 = .ok (.ireturn, 1) := by decide +kernel
set_option maxRecDepth 20000 in
theorem ggX5_idleMinutes_X5_requirePlacedHat : GoodIn wsX5_idleMinutes wsX5_requirePlacedHat := goodIn_ca (goodIn_ca (goodIn_ca (goodIn_r _ [6, 7, 8, 9, 10, 1, 11, 12, 13, 14, 15, 16, 17, 18, 19, 20, 21, 22, 23, 24, 25, 32, 33, 34, 35, 36, 37, 38, 39, 40, 41, 42, 43, 44, 45, 46, 47, 48, 49, 50, 51, 52, 53, 54, 55, 56] (by decide +kernel) (by decide +kernel)) (goodIn_sub (fun _ h => List.mem_cons_of_mem _ (List.mem_append_left _ (List.mem_append_left _ (List.mem_append_right _ h)))) (by decide +kernel))) (goodIn_sub (fun _ h => List.mem_cons_of_mem _ (List.mem_append_left _ (List.mem_append_right _ h))) (by decide +kernel))) (goodIn_sub (fun _ h => List.mem_cons_of_mem _ (List.mem_append_right _ h)) (by decide +kernel))
set_option maxRecDepth 20000 in
theorem gX5_idleMinutes_X5_requirePlacedHat : GoodIn wsX5_idleMinutes (wsV RX5 106 RX5 yX5_requirePlacedHat wsX5_requirePlacedHat) := goodIn_app (goodIn_of _ (by decide +kernel)) ggX5_idleMinutes_X5_requirePlacedHat
set_option maxRecDepth 20000 in
theorem ggX5_idleMinutes_X3_idleTime : GoodIn wsX5_idleMinutes wsX3_idleTime := goodIn_ca (goodIn_r _ [29, 30, 31, 42, 43, 44, 45, 46, 47, 48, 49, 50, 51, 52, 53, 54, 55, 56] (by decide +kernel) (by decide +kernel)) (goodIn_sub (fun _ h => List.mem_cons_of_mem _ (List.mem_append_right _ h)) (by decide +kernel))
set_option maxRecDepth 20000 in
theorem gX5_idleMinutes_X3_idleTime : GoodIn wsX5_idleMinutes (wsV RX5 139 RX3 yX3_idleTime wsX3_idleTime) := goodIn_app (goodIn_of _ (by decide +kernel)) ggX5_idleMinutes_X3_idleTime
theorem dX5_idleMinutes_0 : decode cX5_idleMinutes 0 = .ok (.aload_n 0, 1) := by decide +kernel
theorem dX5_idleMinutes_1 : decode cX5_idleMinutes 1 = .ok (.iload_n 1, 1) := by decide +kernel
theorem dX5_idleMinutes_2 : decode cX5_idleMinutes 2 = .ok (.invokevirtual 106, 3) := by decide +kernel
theorem dX5_idleMinutes_5 : decode cX5_idleMinutes 5 = .ok (.aload_n 0, 1) := by decide +kernel
theorem dX5_idleMinutes_6 : decode cX5_idleMinutes 6 = .ok (.getfield 10, 3) := by decide +kernel
theorem dX5_idleMinutes_9 : decode cX5_idleMinutes 9 = .ok (.iload_n 1, 1) := by decide +kernel
theorem dX5_idleMinutes_10 : decode cX5_idleMinutes 10 = .ok (.invokevirtual 139, 3) := by decide +kernel
theorem dX5_idleMinutes_13 : decode cX5_idleMinutes 13 = .ok (.ireturn, 1) := by decide +kernel
set_option maxRecDepth 20000 in
theorem ggX5_leaveCoat_X3_refusalOfCoat : GoodIn wsX5_leaveCoat wsX3_refusalOfCoat := goodIn_ca (goodIn_r _ [13, 14, 15, 16, 17, 12, 18, 19, 20, 21, 22, 23, 24, 25, 26, 27, 28, 29, 30, 31, 86, 87, 88, 89, 90, 91, 92, 93, 94, 95, 96, 97, 98, 99, 100] (by decide +kernel) (by decide +kernel)) (goodIn_sub (fun _ h => List.mem_cons_of_mem _ (List.mem_append_right _ h)) (by decide +kernel))
set_option maxRecDepth 20000 in
theorem gX5_leaveCoat_X3_refusalOfCoat : GoodIn wsX5_leaveCoat (wsV RX5 142 RX3 yX3_refusalOfCoat wsX3_refusalOfCoat) := goodIn_app (goodIn_of _ (by decide +kernel)) ggX5_leaveCoat_X3_refusalOfCoat
set_option maxRecDepth 20000 in
theorem ggX5_leaveCoat_X4_remember : GoodIn wsX5_leaveCoat wsX4_remember := goodIn_r _ [36, 37, 38, 39, 35, 40, 41, 42, 43, 44, 45, 12, 46, 47, 48, 49, 50, 51, 52, 53, 54, 27, 14, 55, 56, 57, 19, 58, 59, 60, 61, 62, 63, 64, 65, 66, 67, 68, 69, 70, 71, 101, 102, 103, 86, 87, 88, 89, 90, 91, 92, 93, 94, 95, 96, 97, 98, 99, 100] (by decide +kernel) (by decide +kernel)
set_option maxRecDepth 20000 in
theorem gX5_leaveCoat_X4_remember : GoodIn wsX5_leaveCoat (wsV RX5 70 RX4 yX4_remember wsX4_remember) := goodIn_app (goodIn_of _ (by decide +kernel)) ggX5_leaveCoat_X4_remember
set_option maxRecDepth 20000 in
theorem ggX5_leaveCoat_X3_putCoat : GoodIn wsX5_leaveCoat wsX3_putCoat := goodIn_ca (goodIn_r _ [75, 57, 56, 55, 14, 28, 29, 30, 12, 31, 86, 87, 88, 89, 90, 91, 92, 93, 94, 95, 96, 97, 98, 99, 100] (by decide +kernel) (by decide +kernel)) (goodIn_sub (fun _ h => List.mem_cons_of_mem _ (List.mem_append_right _ h)) (by decide +kernel))
set_option maxRecDepth 20000 in
theorem gX5_leaveCoat_X3_putCoat : GoodIn wsX5_leaveCoat (wsV RX5 149 RX3 yX3_putCoat wsX3_putCoat) := goodIn_app (goodIn_of _ (by decide +kernel)) ggX5_leaveCoat_X3_putCoat
theorem dX5_leaveCoat_0 : decode cX5_leaveCoat 0 = .ok (.aload_n 0, 1) := by decide +kernel
theorem dX5_leaveCoat_1 : decode cX5_leaveCoat 1 = .ok (.getfield 10, 3) := by decide +kernel
theorem dX5_leaveCoat_4 : decode cX5_leaveCoat 4 = .ok (.iload_n 1, 1) := by decide +kernel
theorem dX5_leaveCoat_5 : decode cX5_leaveCoat 5 = .ok (.iload_n 2, 1) := by decide +kernel
theorem dX5_leaveCoat_6 : decode cX5_leaveCoat 6 = .ok (.invokevirtual 142, 3) := by decide +kernel
theorem dX5_leaveCoat_9 : decode cX5_leaveCoat 9 = .ok (.istore_n 3, 1) := by decide +kernel
theorem dX5_leaveCoat_10 : decode cX5_leaveCoat 10 = .ok (.iload_n 3, 1) := by decide +kernel
theorem dX5_leaveCoat_11 : decode cX5_leaveCoat 11 = .ok (.iconst 1, 1) := by decide +kernel
theorem dX5_leaveCoat_12 : decode cX5_leaveCoat 12 = .ok (.if_icmp .ne 13, 3) := by decide +kernel
theorem dX5_leaveCoat_15 : decode cX5_leaveCoat 15 = .ok (.new 81, 3) := by decide +kernel
theorem dX5_leaveCoat_18 : decode cX5_leaveCoat 18 = .ok (.dup, 1) := by decide +kernel
theorem dX5_leaveCoat_19 : decode cX5_leaveCoat 19 = .ok (.ldc 94, 2) := by decide +kernel
theorem dX5_leaveCoat_21 : decode cX5_leaveCoat 21 = .ok (.invokespecial 85, 3) := by decide +kernel
theorem dX5_leaveCoat_24 : decode cX5_leaveCoat 24 = .ok (.athrow, 1) := by decide +kernel
theorem dX5_leaveCoat_25 : decode cX5_leaveCoat 25 = .ok (.iload_n 3, 1) := by decide +kernel
theorem dX5_leaveCoat_26 : decode cX5_leaveCoat 26 = .ok (.iconst 2, 1) := by decide +kernel
theorem dX5_leaveCoat_27 : decode cX5_leaveCoat 27 = .ok (.if_icmp .ne 13, 3) := by decide +kernel
theorem dX5_leaveCoat_30 : decode cX5_leaveCoat 30 = .ok (.new 65, 3) := by decide +kernel
theorem dX5_leaveCoat_33 : decode cX5_leaveCoat 33 = .ok (.dup, 1) := by decide +kernel
theorem dX5_leaveCoat_34 : decode cX5_leaveCoat 34 = .ok (.ldc 145, 2) := by decide +kernel
theorem dX5_leaveCoat_36 : decode cX5_leaveCoat 36 = .ok (.invokespecial 69, 3) := by decide +kernel
theorem dX5_leaveCoat_39 : decode cX5_leaveCoat 39 = .ok (.athrow, 1) := by decide +kernel
theorem dX5_leaveCoat_40 : decode cX5_leaveCoat 40 = .ok (.iload_n 3, 1) := by decide +kernel
theorem dX5_leaveCoat_41 : decode cX5_leaveCoat 41 = .ok (.ifCond .eq 13, 3) := by decide +kernel
theorem dX5_leaveCoat_44 : decode cX5_leaveCoat 44 = .ok (.new 98, 3) := by decide +kernel
theorem dX5_leaveCoat_47 : decode cX5_leaveCoat 47 = .ok (.dup, 1) := by decide +kernel
theorem dX5_leaveCoat_48 : decode cX5_leaveCoat 48 = .ok (.ldc 147, 2) := by decide +kernel
theorem dX5_leaveCoat_50 : decode cX5_leaveCoat 50 = .ok (.invokespecial 102, 3) := by decide +kernel
theorem dX5_leaveCoat_53 : decode cX5_leaveCoat 53 = .ok (.athrow, 1) := by decide +kernel
theorem dX5_leaveCoat_54 : decode cX5_leaveCoat 54 = .ok (.aload_n 0, 1) := by decide +kernel
theorem dX5_leaveCoat_55 : decode cX5_leaveCoat 55 = .ok (.getfield 22, 3) := by decide +kernel
theorem dX5_leaveCoat_58 : decode cX5_leaveCoat 58 = .ok (.aload_n 0, 1) := by decide +kernel
theorem dX5_leaveCoat_59 : decode cX5_leaveCoat 59 = .ok (.getfield 10, 3) := by decide +kernel
theorem dX5_leaveCoat_62 : decode cX5_leaveCoat 62 = .ok (.invokevirtual 70, 3) := by decide +kernel
theorem dX5_leaveCoat_65 : decode cX5_leaveCoat 65 = .ok (.aload_n 0, 1) := by decide +kernel
theorem dX5_leaveCoat_66 : decode cX5_leaveCoat 66 = .ok (.getfield 10, 3) := by decide +kernel
theorem dX5_leaveCoat_69 : decode cX5_leaveCoat 69 = .ok (.iload_n 1, 1) := by decide +kernel
theorem dX5_leaveCoat_70 : decode cX5_leaveCoat 70 = .ok (.iload_n 2, 1) := by decide +kernel
theorem dX5_leaveCoat_71 : decode cX5_leaveCoat 71 = .ok (.invokevirtual 149, 3) := by decide +kernel
theorem dX5_leaveCoat_74 : decode cX5_leaveCoat 74 = .ok (.ireturn, 1) := by decide +kernel
set_option maxRecDepth 20000 in
theorem ggX5_takeCoat_X5_requireLeftCoat : GoodIn wsX5_takeCoat wsX5_requireLeftCoat := goodIn_ca (goodIn_ca (goodIn_ca (goodIn_r _ [7, 8, 9, 10, 11, 2, 12, 13, 14, 15, 16, 17, 18, 19, 20, 21, 22, 68, 69, 70, 71, 72, 73, 74, 75, 76, 77, 78, 79, 80, 81, 82, 83, 84, 85, 86, 87, 88, 89, 90, 91, 92] (by decide +kernel) (by decide +kernel)) (goodIn_sub (fun _ h => List.mem_cons_of_mem _ (List.mem_append_left _ (List.mem_append_left _ (List.mem_append_right _ h)))) (by decide +kernel))) (goodIn_sub (fun _ h => List.mem_cons_of_mem _ (List.mem_append_left _ (List.mem_append_right _ h))) (by decide +kernel))) (goodIn_sub (fun _ h => List.mem_cons_of_mem _ (List.mem_append_right _ h)) (by decide +kernel))
set_option maxRecDepth 20000 in
theorem gX5_takeCoat_X5_requireLeftCoat : GoodIn wsX5_takeCoat (wsV RX5 152 RX5 yX5_requireLeftCoat wsX5_requireLeftCoat) := goodIn_app (goodIn_of _ (by decide +kernel)) ggX5_takeCoat_X5_requireLeftCoat
set_option maxRecDepth 20000 in
theorem ggX5_takeCoat_X4_remember : GoodIn wsX5_takeCoat wsX4_remember := goodIn_r _ [27, 28, 29, 30, 26, 31, 32, 33, 34, 35, 36, 15, 37, 38, 39, 40, 41, 42, 43, 44, 45, 46, 17, 47, 48, 49, 22, 50, 51, 52, 53, 54, 55, 56, 57, 58, 59, 60, 61, 62, 63, 93, 94, 95, 78, 79, 80, 81, 82, 83, 84, 85, 86, 87, 88, 89, 90, 91, 92] (by decide +kernel) (by decide +kernel)
set_option maxRecDepth 20000 in
theorem gX5_takeCoat_X4_remember : GoodIn wsX5_takeCoat (wsV RX5 70 RX4 yX4_remember wsX4_remember) := goodIn_app (goodIn_of _ (by decide +kernel)) ggX5_takeCoat_X4_remember
set_option maxRecDepth 20000 in
theorem ggX5_takeCoat_X3_pullCoat : GoodIn wsX5_takeCoat wsX3_pullCoat := goodIn_ca (goodIn_r _ [67, 17, 47, 78, 79, 80, 81, 82, 83, 84, 85, 86, 87, 88, 89, 90, 91, 92] (by decide +kernel) (by decide +kernel)) (goodIn_sub (fun _ h => List.mem_cons_of_mem _ (List.mem_append_right _ h)) (by decide +kernel))
set_option maxRecDepth 20000 in
theorem gX5_takeCoat_X3_pullCoat : GoodIn wsX5_takeCoat (wsV RX5 155 RX3 yX3_pullCoat wsX3_pullCoat) := goodIn_app (goodIn_of _ (by decide +kernel)) ggX5_takeCoat_X3_pullCoat
theorem dX5_takeCoat_0 : decode cX5_takeCoat 0 = .ok (.aload_n 0, 1) := by decide +kernel
theorem dX5_takeCoat_1 : decode cX5_takeCoat 1 = .ok (.iload_n 1, 1) := by decide +kernel
theorem dX5_takeCoat_2 : decode cX5_takeCoat 2 = .ok (.invokevirtual 152, 3) := by decide +kernel
theorem dX5_takeCoat_5 : decode cX5_takeCoat 5 = .ok (.aload_n 0, 1) := by decide +kernel
theorem dX5_takeCoat_6 : decode cX5_takeCoat 6 = .ok (.getfield 22, 3) := by decide +kernel
theorem dX5_takeCoat_9 : decode cX5_takeCoat 9 = .ok (.aload_n 0, 1) := by decide +kernel
theorem dX5_takeCoat_10 : decode cX5_takeCoat 10 = .ok (.getfield 10, 3) := by decide +kernel
theorem dX5_takeCoat_13 : decode cX5_takeCoat 13 = .ok (.invokevirtual 70, 3) := by decide +kernel
theorem dX5_takeCoat_16 : decode cX5_takeCoat 16 = .ok (.aload_n 0, 1) := by decide +kernel
theorem dX5_takeCoat_17 : decode cX5_takeCoat 17 = .ok (.getfield 10, 3) := by decide +kernel
theorem dX5_takeCoat_20 : decode cX5_takeCoat 20 = .ok (.iload_n 1, 1) := by decide +kernel
theorem dX5_takeCoat_21 : decode cX5_takeCoat 21 = .ok (.invokevirtual 155, 3) := by decide +kernel
theorem dX5_takeCoat_24 : decode cX5_takeCoat 24 = .ok (.ireturn, 1) := by decide +kernel
set_option maxRecDepth 20000 in
theorem ggX5_hasCoatLeft_X5_requireGuest : GoodIn wsX5_hasCoatLeft wsX5_requireGuest := goodIn_ca (goodIn_r _ [7, 8, 9, 1, 10, 11, 12, 13, 14, 15, 16, 17, 18, 19, 20, 21, 22, 23, 24, 25, 26, 27, 28, 29, 30, 31, 32, 33, 34, 35, 36, 37, 38, 39, 40] (by decide +kernel) (by decide +kernel)) (goodIn_sub (fun _ h => List.mem_cons_of_mem _ (List.mem_append_right _ h)) (by decide +kernel))
set_option maxRecDepth 20000 in
theorem gX5_hasCoatLeft_X5_requireGuest : GoodIn wsX5_hasCoatLeft (wsV RX5 119 RX5 yX5_requireGuest wsX5_requireGuest) := goodIn_app (goodIn_of _ (by decide +kernel)) ggX5_hasCoatLeft_X5_requireGuest
theorem dX5_hasCoatLeft_0 : decode cX5_hasCoatLeft 0 = .ok (.aload_n 0, 1) := by decide +kernel
theorem dX5_hasCoatLeft_1 : decode cX5_hasCoatLeft 1 = .ok (.iload_n 1, 1) := by decide +kernel
theorem dX5_hasCoatLeft_2 : decode cX5_hasCoatLeft 2 = .ok (.invokevirtual 119, 3) := by decide +kernel
theorem dX5_hasCoatLeft_5 : decode cX5_hasCoatLeft 5 = .ok (.aload_n 0, 1) := by decide +kernel
theorem dX5_hasCoatLeft_6 : decode cX5_hasCoatLeft 6 = .ok (.getfield 10, 3) := by decide +kernel
theorem dX5_hasCoatLeft_9 : decode cX5_hasCoatLeft 9 = .ok (.getfield 158, 3) := by decide +kernel
theorem dX5_hasCoatLeft_12 : decode cX5_hasCoatLeft 12 = .ok (.iload_n 1, 1) := by decide +kernel
theorem dX5_hasCoatLeft_13 : decode cX5_hasCoatLeft 13 = .ok (.iaload, 1) := by decide +kernel
theorem dX5_hasCoatLeft_14 : decode cX5_hasCoatLeft 14 = .ok (.iconst (-1), 1) := by decide +kernel
theorem dX5_hasCoatLeft_15 : decode cX5_hasCoatLeft 15 = .ok (.if_icmp .eq 7, 3) := by decide +kernel
theorem dX5_hasCoatLeft_18 : decode cX5_hasCoatLeft 18 = .ok (.iconst 1, 1) := by decide +kernel
theorem dX5_hasCoatLeft_19 : decode cX5_hasCoatLeft 19 = .ok (.goto 4, 3) := by decide +kernel
theorem dX5_hasCoatLeft_22 : decode cX5_hasCoatLeft 22 = .ok (.iconst 0, 1) := by decide +kernel
theorem dX5_hasCoatLeft_23 : decode cX5_hasCoatLeft 23 = .ok (.ireturn, 1) := by decide +kernel
set_option maxRecDepth 20000 in
theorem ggX5_coatChair_X5_requireLeftCoat : GoodIn wsX5_coatChair wsX5_requireLeftCoat := goodIn_ca (goodIn_ca (goodIn_ca (goodIn_r _ [7, 8, 9, 10, 11, 1, 12, 13, 14, 15, 16, 17, 18, 19, 20, 21, 22, 23, 24, 25, 26, 27, 28, 29, 30, 31, 32, 33, 34, 35, 36, 37, 38, 39, 40, 41, 42, 43, 44, 45, 46, 47] (by decide +kernel) (by decide +kernel)) (goodIn_sub (fun _ h => List.mem_cons_of_mem _ (List.mem_append_left _ (List.mem_append_right _ h))) (by decide +kernel))) (goodIn_sub (fun _ h => List.mem_cons_of_mem _ (List.mem_append_right _ h)) (by decide +kernel))) (goodIn_sub (fun _ h => List.mem_cons_of_mem _ (List.mem_append_left _ (List.mem_append_left _ (List.mem_append_right _ h)))) (by decide +kernel))
set_option maxRecDepth 20000 in
theorem gX5_coatChair_X5_requireLeftCoat : GoodIn wsX5_coatChair (wsV RX5 152 RX5 yX5_requireLeftCoat wsX5_requireLeftCoat) := goodIn_app (goodIn_of _ (by decide +kernel)) ggX5_coatChair_X5_requireLeftCoat
theorem dX5_coatChair_0 : decode cX5_coatChair 0 = .ok (.aload_n 0, 1) := by decide +kernel
theorem dX5_coatChair_1 : decode cX5_coatChair 1 = .ok (.iload_n 1, 1) := by decide +kernel
theorem dX5_coatChair_2 : decode cX5_coatChair 2 = .ok (.invokevirtual 152, 3) := by decide +kernel
theorem dX5_coatChair_5 : decode cX5_coatChair 5 = .ok (.aload_n 0, 1) := by decide +kernel
theorem dX5_coatChair_6 : decode cX5_coatChair 6 = .ok (.getfield 10, 3) := by decide +kernel
theorem dX5_coatChair_9 : decode cX5_coatChair 9 = .ok (.getfield 158, 3) := by decide +kernel
theorem dX5_coatChair_12 : decode cX5_coatChair 12 = .ok (.iload_n 1, 1) := by decide +kernel
theorem dX5_coatChair_13 : decode cX5_coatChair 13 = .ok (.iaload, 1) := by decide +kernel
theorem dX5_coatChair_14 : decode cX5_coatChair 14 = .ok (.ireturn, 1) := by decide +kernel
set_option maxRecDepth 20000 in
theorem ggX5_coatCount_X5_requireChair : GoodIn wsX5_coatCount wsX5_requireChair := goodIn_ca (goodIn_r _ [5, 6, 7, 8, 9, 10, 11] (by decide +kernel) (by decide +kernel)) (goodIn_sub (fun _ h => List.mem_cons_of_mem _ (List.mem_append_left _ (List.mem_append_right _ h))) (by decide +kernel))
set_option maxRecDepth 20000 in
theorem gX5_coatCount_X5_requireChair : GoodIn wsX5_coatCount (va_wsS RX5 161 yX5_requireChair wsX5_requireChair) := goodIn_app (goodIn_of _ (by decide +kernel)) ggX5_coatCount_X5_requireChair
set_option maxRecDepth 20000 in
theorem ggX5_coatCount_X3_coatsOn : GoodIn wsX5_coatCount wsX3_coatsOn := goodIn_ca (goodIn_r _ [15, 16, 27, 28, 29, 30, 31, 32, 33, 34, 35, 36, 37, 38, 39, 40, 41] (by decide +kernel) (by decide +kernel)) (goodIn_sub (fun _ h => List.mem_cons_of_mem _ (List.mem_append_right _ h)) (by decide +kernel))
set_option maxRecDepth 20000 in
theorem gX5_coatCount_X3_coatsOn : GoodIn wsX5_coatCount (wsV RX5 164 RX3 yX3_coatsOn wsX3_coatsOn) := goodIn_app (goodIn_of _ (by decide +kernel)) ggX5_coatCount_X3_coatsOn
theorem dX5_coatCount_0 : decode cX5_coatCount 0 = .ok (.iload_n 1, 1) := by decide +kernel
theorem dX5_coatCount_1 : decode cX5_coatCount 1 = .ok (.invokestatic 161, 3) := by decide +kernel
theorem dX5_coatCount_4 : decode cX5_coatCount 4 = .ok (.aload_n 0, 1) := by decide +kernel
theorem dX5_coatCount_5 : decode cX5_coatCount 5 = .ok (.getfield 10, 3) := by decide +kernel
theorem dX5_coatCount_8 : decode cX5_coatCount 8 = .ok (.iload_n 1, 1) := by decide +kernel
theorem dX5_coatCount_9 : decode cX5_coatCount 9 = .ok (.invokevirtual 164, 3) := by decide +kernel
theorem dX5_coatCount_12 : decode cX5_coatCount 12 = .ok (.ireturn, 1) := by decide +kernel
set_option maxRecDepth 20000 in
theorem ggX5_coatOwner_X5_requireChair : GoodIn wsX5_coatOwner wsX5_requireChair := goodIn_ca (goodIn_r _ [7, 8, 9, 10, 11, 12, 13] (by decide +kernel) (by decide +kernel)) (goodIn_sub (fun _ h => List.mem_cons_of_mem _ (List.mem_append_left _ (List.mem_append_right _ h))) (by decide +kernel))
set_option maxRecDepth 20000 in
theorem gX5_coatOwner_X5_requireChair : GoodIn wsX5_coatOwner (va_wsS RX5 161 yX5_requireChair wsX5_requireChair) := goodIn_app (goodIn_of _ (by decide +kernel)) ggX5_coatOwner_X5_requireChair
set_option maxRecDepth 20000 in
theorem ggX5_coatOwner_X3_ownerAt : GoodIn wsX5_coatOwner wsX3_ownerAt := goodIn_ca (goodIn_r _ [17, 18, 19, 30, 31, 32, 33, 34, 35, 36, 37, 38, 39, 40, 41, 42, 43, 44] (by decide +kernel) (by decide +kernel)) (goodIn_sub (fun _ h => List.mem_cons_of_mem _ (List.mem_append_right _ h)) (by decide +kernel))
set_option maxRecDepth 20000 in
theorem gX5_coatOwner_X3_ownerAt : GoodIn wsX5_coatOwner (wsV RX5 167 RX3 yX3_ownerAt wsX3_ownerAt) := goodIn_app (goodIn_of _ (by decide +kernel)) ggX5_coatOwner_X3_ownerAt
theorem dX5_coatOwner_0 : decode cX5_coatOwner 0 = .ok (.iload_n 1, 1) := by decide +kernel
theorem dX5_coatOwner_1 : decode cX5_coatOwner 1 = .ok (.invokestatic 161, 3) := by decide +kernel
theorem dX5_coatOwner_4 : decode cX5_coatOwner 4 = .ok (.aload_n 0, 1) := by decide +kernel
theorem dX5_coatOwner_5 : decode cX5_coatOwner 5 = .ok (.getfield 10, 3) := by decide +kernel
theorem dX5_coatOwner_8 : decode cX5_coatOwner 8 = .ok (.iload_n 1, 1) := by decide +kernel
theorem dX5_coatOwner_9 : decode cX5_coatOwner 9 = .ok (.iload_n 2, 1) := by decide +kernel
theorem dX5_coatOwner_10 : decode cX5_coatOwner 10 = .ok (.invokevirtual 167, 3) := by decide +kernel
theorem dX5_coatOwner_13 : decode cX5_coatOwner 13 = .ok (.istore_n 3, 1) := by decide +kernel
theorem dX5_coatOwner_14 : decode cX5_coatOwner 14 = .ok (.iload_n 3, 1) := by decide +kernel
theorem dX5_coatOwner_15 : decode cX5_coatOwner 15 = .ok (.iconst (-1), 1) := by decide +kernel
theorem dX5_coatOwner_16 : decode cX5_coatOwner 16 = .ok (.if_icmp .ne 13, 3) := by decide +kernel
theorem dX5_coatOwner_19 : decode cX5_coatOwner 19 = .ok (.new 170, 3) := by decide +kernel
theorem dX5_coatOwner_22 : decode cX5_coatOwner 22 = .ok (.dup, 1) := by decide +kernel
theorem dX5_coatOwner_23 : decode cX5_coatOwner 23 = .ok (.ldc 172, 2) := by decide +kernel
theorem dX5_coatOwner_25 : decode cX5_coatOwner 25 = .ok (.invokespecial 174, 3) := by decide +kernel
theorem dX5_coatOwner_28 : decode cX5_coatOwner 28 = .ok (.athrow, 1) := by decide +kernel
theorem dX5_coatOwner_29 : decode cX5_coatOwner 29 = .ok (.iload_n 3, 1) := by decide +kernel
theorem dX5_coatOwner_30 : decode cX5_coatOwner 30 = .ok (.ireturn, 1) := by decide +kernel
set_option maxRecDepth 20000 in
theorem ggX5_nextClaimant_X5_requireChair : GoodIn wsX5_nextClaimant wsX5_requireChair := goodIn_ca (goodIn_r _ [7, 8, 9, 10, 11, 12, 13] (by decide +kernel) (by decide +kernel)) (goodIn_sub (fun _ h => List.mem_cons_of_mem _ (List.mem_append_left _ (List.mem_append_right _ h))) (by decide +kernel))
set_option maxRecDepth 20000 in
theorem gX5_nextClaimant_X5_requireChair : GoodIn wsX5_nextClaimant (va_wsS RX5 161 yX5_requireChair wsX5_requireChair) := goodIn_app (goodIn_of _ (by decide +kernel)) ggX5_nextClaimant_X5_requireChair
set_option maxRecDepth 20000 in
theorem ggX5_nextClaimant_X3_claimantByQueue : GoodIn wsX5_nextClaimant wsX3_claimantByQueue := goodIn_ca (goodIn_r _ [17, 18, 19, 20, 12, 21, 22, 23, 24, 25, 26, 27, 28, 39, 40, 41, 42, 43, 44, 45, 46, 47, 48, 49, 50, 51, 52, 53] (by decide +kernel) (by decide +kernel)) (goodIn_sub (fun _ h => List.mem_cons_of_mem _ (List.mem_append_right _ h)) (by decide +kernel))
set_option maxRecDepth 20000 in
theorem gX5_nextClaimant_X3_claimantByQueue : GoodIn wsX5_nextClaimant (wsV RX5 175 RX3 yX3_claimantByQueue wsX3_claimantByQueue) := goodIn_app (goodIn_of _ (by decide +kernel)) ggX5_nextClaimant_X3_claimantByQueue
theorem dX5_nextClaimant_0 : decode cX5_nextClaimant 0 = .ok (.iload_n 1, 1) := by decide +kernel
theorem dX5_nextClaimant_1 : decode cX5_nextClaimant 1 = .ok (.invokestatic 161, 3) := by decide +kernel
theorem dX5_nextClaimant_4 : decode cX5_nextClaimant 4 = .ok (.aload_n 0, 1) := by decide +kernel
theorem dX5_nextClaimant_5 : decode cX5_nextClaimant 5 = .ok (.getfield 10, 3) := by decide +kernel
theorem dX5_nextClaimant_8 : decode cX5_nextClaimant 8 = .ok (.iload_n 1, 1) := by decide +kernel
theorem dX5_nextClaimant_9 : decode cX5_nextClaimant 9 = .ok (.invokevirtual 175, 3) := by decide +kernel
theorem dX5_nextClaimant_12 : decode cX5_nextClaimant 12 = .ok (.istore_n 2, 1) := by decide +kernel
theorem dX5_nextClaimant_13 : decode cX5_nextClaimant 13 = .ok (.iload_n 2, 1) := by decide +kernel
theorem dX5_nextClaimant_14 : decode cX5_nextClaimant 14 = .ok (.iconst (-1), 1) := by decide +kernel
theorem dX5_nextClaimant_15 : decode cX5_nextClaimant 15 = .ok (.if_icmp .ne 13, 3) := by decide +kernel
theorem dX5_nextClaimant_18 : decode cX5_nextClaimant 18 = .ok (.new 170, 3) := by decide +kernel
theorem dX5_nextClaimant_21 : decode cX5_nextClaimant 21 = .ok (.dup, 1) := by decide +kernel
theorem dX5_nextClaimant_22 : decode cX5_nextClaimant 22 = .ok (.ldc 178, 2) := by decide +kernel
theorem dX5_nextClaimant_24 : decode cX5_nextClaimant 24 = .ok (.invokespecial 174, 3) := by decide +kernel
theorem dX5_nextClaimant_27 : decode cX5_nextClaimant 27 = .ok (.athrow, 1) := by decide +kernel
theorem dX5_nextClaimant_28 : decode cX5_nextClaimant 28 = .ok (.iload_n 2, 1) := by decide +kernel
theorem dX5_nextClaimant_29 : decode cX5_nextClaimant 29 = .ok (.ireturn, 1) := by decide +kernel
set_option maxRecDepth 20000 in
theorem ggX5_nextClaimantByTime_X5_requireChair : GoodIn wsX5_nextClaimantByTime wsX5_requireChair := goodIn_ca (goodIn_r _ [7, 8, 9, 10, 11, 12, 13] (by decide +kernel) (by decide +kernel)) (goodIn_sub (fun _ h => List.mem_cons_of_mem _ (List.mem_append_left _ (List.mem_append_right _ h))) (by decide +kernel))
set_option maxRecDepth 20000 in
theorem gX5_nextClaimantByTime_X5_requireChair : GoodIn wsX5_nextClaimantByTime (va_wsS RX5 161 yX5_requireChair wsX5_requireChair) := goodIn_app (goodIn_of _ (by decide +kernel)) ggX5_nextClaimantByTime_X5_requireChair
set_option maxRecDepth 20000 in
theorem ggX5_nextClaimantByTime_X3_claimantByOrder : GoodIn wsX5_nextClaimantByTime wsX3_claimantByOrder := goodIn_ca (goodIn_r _ [17, 18, 19, 20, 21, 22, 12, 23, 24, 35, 36, 37, 38, 39, 40, 41, 42, 43, 44, 45, 46, 47, 48, 49] (by decide +kernel) (by decide +kernel)) (goodIn_sub (fun _ h => List.mem_cons_of_mem _ (List.mem_append_right _ h)) (by decide +kernel))
set_option maxRecDepth 20000 in
theorem gX5_nextClaimantByTime_X3_claimantByOrder : GoodIn wsX5_nextClaimantByTime (wsV RX5 180 RX3 yX3_claimantByOrder wsX3_claimantByOrder) := goodIn_app (goodIn_of _ (by decide +kernel)) ggX5_nextClaimantByTime_X3_claimantByOrder
theorem dX5_nextClaimantByTime_0 : decode cX5_nextClaimantByTime 0 = .ok (.iload_n 1, 1) := by decide +kernel
theorem dX5_nextClaimantByTime_1 : decode cX5_nextClaimantByTime 1 = .ok (.invokestatic 161, 3) := by decide +kernel
theorem dX5_nextClaimantByTime_4 : decode cX5_nextClaimantByTime 4 = .ok (.aload_n 0, 1) := by decide +kernel
theorem dX5_nextClaimantByTime_5 : decode cX5_nextClaimantByTime 5 = .ok (.getfield 10, 3) := by decide +kernel
theorem dX5_nextClaimantByTime_8 : decode cX5_nextClaimantByTime 8 = .ok (.iload_n 1, 1) := by decide +kernel
theorem dX5_nextClaimantByTime_9 : decode cX5_nextClaimantByTime 9 = .ok (.invokevirtual 180, 3) := by decide +kernel
theorem dX5_nextClaimantByTime_12 : decode cX5_nextClaimantByTime 12 = .ok (.istore_n 2, 1) := by decide +kernel
theorem dX5_nextClaimantByTime_13 : decode cX5_nextClaimantByTime 13 = .ok (.iload_n 2, 1) := by decide +kernel
theorem dX5_nextClaimantByTime_14 : decode cX5_nextClaimantByTime 14 = .ok (.iconst (-1), 1) := by decide +kernel
theorem dX5_nextClaimantByTime_15 : decode cX5_nextClaimantByTime 15 = .ok (.if_icmp .ne 13, 3) := by decide +kernel
theorem dX5_nextClaimantByTime_18 : decode cX5_nextClaimantByTime 18 = .ok (.new 170, 3) := by decide +kernel
theorem dX5_nextClaimantByTime_21 : decode cX5_nextClaimantByTime 21 = .ok (.dup, 1) := by decide +kernel
theorem dX5_nextClaimantByTime_22 : decode cX5_nextClaimantByTime 22 = .ok (.ldc 178, 2) := by decide +kernel
theorem dX5_nextClaimantByTime_24 : decode cX5_nextClaimantByTime 24 = .ok (.invokespecial 174, 3) := by decide +kernel
theorem dX5_nextClaimantByTime_27 : decode cX5_nextClaimantByTime 27 = .ok (.athrow, 1) := by decide +kernel
theorem dX5_nextClaimantByTime_28 : decode cX5_nextClaimantByTime 28 = .ok (.iload_n 2, 1) := by decide +kernel
theorem dX5_nextClaimantByTime_29 : decode cX5_nextClaimantByTime 29 = .ok (.ireturn, 1) := by decide +kernel
set_option maxRecDepth 20000 in
theorem ggX5_contest_X3_refusalOfContest : GoodIn wsX5_contest wsX3_refusalOfContest := goodIn_ca (goodIn_r _ [13, 14, 15, 16, 12, 17, 18, 19, 20, 21, 22, 23, 24, 25, 26, 27, 28, 29, 30, 31, 136, 137, 138, 139, 140, 141, 142, 143, 144, 145, 146, 147, 148, 149, 150] (by decide +kernel) (by decide +kernel)) (goodIn_sub (fun _ h => List.mem_cons_of_mem _ (List.mem_append_right _ h)) (by decide +kernel))
set_option maxRecDepth 20000 in
theorem gX5_contest_X3_refusalOfContest : GoodIn wsX5_contest (wsV RX5 183 RX3 yX3_refusalOfContest wsX3_refusalOfContest) := goodIn_app (goodIn_of _ (by decide +kernel)) ggX5_contest_X3_refusalOfContest
set_option maxRecDepth 20000 in
theorem ggX5_contest_X4_remember : GoodIn wsX5_contest wsX4_remember := goodIn_r _ [36, 37, 38, 39, 35, 40, 41, 42, 43, 44, 45, 12, 46, 47, 48, 49, 50, 51, 52, 31, 53, 26, 54, 55, 56, 57, 18, 58, 59, 60, 61, 62, 63, 64, 65, 66, 67, 68, 69, 70, 71, 151, 152, 153, 136, 137, 138, 139, 140, 141, 142, 143, 144, 145, 146, 147, 148, 149, 150] (by decide +kernel) (by decide +kernel)
set_option maxRecDepth 20000 in
theorem gX5_contest_X4_remember : GoodIn wsX5_contest (wsV RX5 70 RX4 yX4_remember wsX4_remember) := goodIn_app (goodIn_of _ (by decide +kernel)) ggX5_contest_X4_remember
set_option maxRecDepth 20000 in
theorem ggX5_contest_X3_fightFor : GoodIn wsX5_contest wsX3_fightFor := goodIn_ca (goodIn_r _ [75, 47, 76, 77, 70, 78, 62, 22, 23, 24, 12, 25, 26, 79, 80, 81, 82, 83, 84, 85, 86, 31, 87, 88, 89, 90, 91, 92, 93, 94, 95, 53, 58, 52, 96, 97, 98, 99, 100, 101, 102, 103, 104, 105, 106, 107, 108, 109, 110, 111, 112, 113, 114, 115, 116, 117, 61, 60, 118, 119, 120, 121, 54, 55, 122, 123, 124, 125, 27, 28, 29, 30, 136, 137, 138, 139, 140, 141, 142, 143, 144, 145, 146, 147, 148, 149, 150] (by decide +kernel) (by decide +kernel)) (goodIn_sub (fun _ h => List.mem_cons_of_mem _ (List.mem_append_right _ h)) (by decide +kernel))
set_option maxRecDepth 20000 in
theorem gX5_contest_X3_fightFor : GoodIn wsX5_contest (wsV RX5 188 RX3 yX3_fightFor wsX3_fightFor) := goodIn_app (goodIn_of _ (by decide +kernel)) ggX5_contest_X3_fightFor
theorem dX5_contest_0 : decode cX5_contest 0 = .ok (.aload_n 0, 1) := by decide +kernel
theorem dX5_contest_1 : decode cX5_contest 1 = .ok (.getfield 10, 3) := by decide +kernel
theorem dX5_contest_4 : decode cX5_contest 4 = .ok (.iload_n 1, 1) := by decide +kernel
theorem dX5_contest_5 : decode cX5_contest 5 = .ok (.iload_n 2, 1) := by decide +kernel
theorem dX5_contest_6 : decode cX5_contest 6 = .ok (.invokevirtual 183, 3) := by decide +kernel
theorem dX5_contest_9 : decode cX5_contest 9 = .ok (.istore_n 3, 1) := by decide +kernel
theorem dX5_contest_10 : decode cX5_contest 10 = .ok (.iload_n 3, 1) := by decide +kernel
theorem dX5_contest_11 : decode cX5_contest 11 = .ok (.iconst 1, 1) := by decide +kernel
theorem dX5_contest_12 : decode cX5_contest 12 = .ok (.if_icmp .ne 13, 3) := by decide +kernel
theorem dX5_contest_15 : decode cX5_contest 15 = .ok (.new 81, 3) := by decide +kernel
theorem dX5_contest_18 : decode cX5_contest 18 = .ok (.dup, 1) := by decide +kernel
theorem dX5_contest_19 : decode cX5_contest 19 = .ok (.ldc 94, 2) := by decide +kernel
theorem dX5_contest_21 : decode cX5_contest 21 = .ok (.invokespecial 85, 3) := by decide +kernel
theorem dX5_contest_24 : decode cX5_contest 24 = .ok (.athrow, 1) := by decide +kernel
theorem dX5_contest_25 : decode cX5_contest 25 = .ok (.iload_n 3, 1) := by decide +kernel
theorem dX5_contest_26 : decode cX5_contest 26 = .ok (.iconst 2, 1) := by decide +kernel
theorem dX5_contest_27 : decode cX5_contest 27 = .ok (.if_icmp .ne 13, 3) := by decide +kernel
theorem dX5_contest_30 : decode cX5_contest 30 = .ok (.new 170, 3) := by decide +kernel
theorem dX5_contest_33 : decode cX5_contest 33 = .ok (.dup, 1) := by decide +kernel
theorem dX5_contest_34 : decode cX5_contest 34 = .ok (.ldc 186, 2) := by decide +kernel
theorem dX5_contest_36 : decode cX5_contest 36 = .ok (.invokespecial 174, 3) := by decide +kernel
theorem dX5_contest_39 : decode cX5_contest 39 = .ok (.athrow, 1) := by decide +kernel
theorem dX5_contest_40 : decode cX5_contest 40 = .ok (.iload_n 3, 1) := by decide +kernel
theorem dX5_contest_41 : decode cX5_contest 41 = .ok (.ifCond .eq 13, 3) := by decide +kernel
theorem dX5_contest_44 : decode cX5_contest 44 = .ok (.new 65, 3) := by decide +kernel
theorem dX5_contest_47 : decode cX5_contest 47 = .ok (.dup, 1) := by decide +kernel
theorem dX5_contest_48 : decode cX5_contest 48 = .ok (.ldc 96, 2) := by decide +kernel
theorem dX5_contest_50 : decode cX5_contest 50 = .ok (.invokespecial 69, 3) := by decide +kernel
theorem dX5_contest_53 : decode cX5_contest 53 = .ok (.athrow, 1) := by decide +kernel
theorem dX5_contest_54 : decode cX5_contest 54 = .ok (.aload_n 0, 1) := by decide +kernel
theorem dX5_contest_55 : decode cX5_contest 55 = .ok (.getfield 22, 3) := by decide +kernel
theorem dX5_contest_58 : decode cX5_contest 58 = .ok (.aload_n 0, 1) := by decide +kernel
theorem dX5_contest_59 : decode cX5_contest 59 = .ok (.getfield 10, 3) := by decide +kernel
theorem dX5_contest_62 : decode cX5_contest 62 = .ok (.invokevirtual 70, 3) := by decide +kernel
theorem dX5_contest_65 : decode cX5_contest 65 = .ok (.aload_n 0, 1) := by decide +kernel
theorem dX5_contest_66 : decode cX5_contest 66 = .ok (.getfield 10, 3) := by decide +kernel
theorem dX5_contest_69 : decode cX5_contest 69 = .ok (.iload_n 1, 1) := by decide +kernel
theorem dX5_contest_70 : decode cX5_contest 70 = .ok (.iload_n 2, 1) := by decide +kernel
theorem dX5_contest_71 : decode cX5_contest 71 = .ok (.invokevirtual 188, 3) := by decide +kernel
theorem dX5_contest_74 : decode cX5_contest 74 = .ok (.ireturn, 1) := by decide +kernel
set_option maxRecDepth 20000 in
theorem ggX5_wouldWin_X3_refusalOfContest : GoodIn wsX5_wouldWin wsX3_refusalOfContest := goodIn_ca (goodIn_r _ [8, 9, 10, 11, 7, 12, 13, 14, 15, 16, 17, 18, 19, 20, 21, 22, 23, 24, 25, 26, 43, 44, 45, 46, 47, 48, 49, 50, 51, 52, 53, 54, 55, 56, 57] (by decide +kernel) (by decide +kernel)) (goodIn_sub (fun _ h => List.mem_cons_of_mem _ (List.mem_append_right _ h)) (by decide +kernel))
set_option maxRecDepth 20000 in
theorem gX5_wouldWin_X3_refusalOfContest : GoodIn wsX5_wouldWin (wsV RX5 183 RX3 yX3_refusalOfContest wsX3_refusalOfContest) := goodIn_app (goodIn_of _ (by decide +kernel)) ggX5_wouldWin_X3_refusalOfContest
set_option maxRecDepth 20000 in
theorem ggX5_wouldWin_X3_covererAt : GoodIn wsX5_wouldWin wsX3_covererAt := goodIn_ca (goodIn_r _ [20, 21, 43, 44, 45, 46, 47, 48, 49, 50, 51, 52, 53, 54, 55, 56, 57] (by decide +kernel) (by decide +kernel)) (goodIn_sub (fun _ h => List.mem_cons_of_mem _ (List.mem_append_right _ h)) (by decide +kernel))
set_option maxRecDepth 20000 in
theorem gX5_wouldWin_X3_covererAt : GoodIn wsX5_wouldWin (wsV RX5 192 RX3 yX3_covererAt wsX3_covererAt) := goodIn_app (goodIn_of _ (by decide +kernel)) ggX5_wouldWin_X3_covererAt
set_option maxRecDepth 20000 in
theorem ggX5_wouldWin_X3_isStronger : GoodIn wsX5_wouldWin wsX3_isStronger := goodIn_ca (goodIn_r _ [31, 32, 43, 44, 45, 46, 47, 48, 49, 50, 51, 52, 53, 54, 55, 56, 57] (by decide +kernel) (by decide +kernel)) (goodIn_sub (fun _ h => List.mem_cons_of_mem _ (List.mem_append_right _ h)) (by decide +kernel))
set_option maxRecDepth 20000 in
theorem gX5_wouldWin_X3_isStronger : GoodIn wsX5_wouldWin (wsV RX5 195 RX3 yX3_isStronger wsX3_isStronger) := goodIn_app (goodIn_of _ (by decide +kernel)) ggX5_wouldWin_X3_isStronger
theorem dX5_wouldWin_0 : decode cX5_wouldWin 0 = .ok (.aload_n 0, 1) := by decide +kernel
theorem dX5_wouldWin_1 : decode cX5_wouldWin 1 = .ok (.getfield 10, 3) := by decide +kernel
theorem dX5_wouldWin_4 : decode cX5_wouldWin 4 = .ok (.iload_n 1, 1) := by decide +kernel
theorem dX5_wouldWin_5 : decode cX5_wouldWin 5 = .ok (.iload_n 2, 1) := by decide +kernel
theorem dX5_wouldWin_6 : decode cX5_wouldWin 6 = .ok (.invokevirtual 183, 3) := by decide +kernel
theorem dX5_wouldWin_9 : decode cX5_wouldWin 9 = .ok (.istore_n 3, 1) := by decide +kernel
theorem dX5_wouldWin_10 : decode cX5_wouldWin 10 = .ok (.iload_n 3, 1) := by decide +kernel
theorem dX5_wouldWin_11 : decode cX5_wouldWin 11 = .ok (.iconst 1, 1) := by decide +kernel
theorem dX5_wouldWin_12 : decode cX5_wouldWin 12 = .ok (.if_icmp .ne 13, 3) := by decide +kernel
theorem dX5_wouldWin_15 : decode cX5_wouldWin 15 = .ok (.new 81, 3) := by decide +kernel
theorem dX5_wouldWin_18 : decode cX5_wouldWin 18 = .ok (.dup, 1) := by decide +kernel
theorem dX5_wouldWin_19 : decode cX5_wouldWin 19 = .ok (.ldc 94, 2) := by decide +kernel
theorem dX5_wouldWin_21 : decode cX5_wouldWin 21 = .ok (.invokespecial 85, 3) := by decide +kernel
theorem dX5_wouldWin_24 : decode cX5_wouldWin 24 = .ok (.athrow, 1) := by decide +kernel
theorem dX5_wouldWin_25 : decode cX5_wouldWin 25 = .ok (.iload_n 3, 1) := by decide +kernel
theorem dX5_wouldWin_26 : decode cX5_wouldWin 26 = .ok (.ifCond .ne 26, 3) := by decide +kernel
theorem dX5_wouldWin_29 : decode cX5_wouldWin 29 = .ok (.aload_n 0, 1) := by decide +kernel
theorem dX5_wouldWin_30 : decode cX5_wouldWin 30 = .ok (.getfield 10, 3) := by decide +kernel
theorem dX5_wouldWin_33 : decode cX5_wouldWin 33 = .ok (.iload_n 1, 1) := by decide +kernel
theorem dX5_wouldWin_34 : decode cX5_wouldWin 34 = .ok (.aload_n 0, 1) := by decide +kernel
theorem dX5_wouldWin_35 : decode cX5_wouldWin 35 = .ok (.getfield 10, 3) := by decide +kernel
theorem dX5_wouldWin_38 : decode cX5_wouldWin 38 = .ok (.iload_n 2, 1) := by decide +kernel
theorem dX5_wouldWin_39 : decode cX5_wouldWin 39 = .ok (.invokevirtual 192, 3) := by decide +kernel
theorem dX5_wouldWin_42 : decode cX5_wouldWin 42 = .ok (.invokevirtual 195, 3) := by decide +kernel
theorem dX5_wouldWin_45 : decode cX5_wouldWin 45 = .ok (.ifCond .eq 7, 3) := by decide +kernel
theorem dX5_wouldWin_48 : decode cX5_wouldWin 48 = .ok (.iconst 1, 1) := by decide +kernel
theorem dX5_wouldWin_49 : decode cX5_wouldWin 49 = .ok (.goto 4, 3) := by decide +kernel
theorem dX5_wouldWin_52 : decode cX5_wouldWin 52 = .ok (.iconst 0, 1) := by decide +kernel
theorem dX5_wouldWin_53 : decode cX5_wouldWin 53 = .ok (.ireturn, 1) := by decide +kernel
set_option maxRecDepth 20000 in
theorem ggX5_pass_X3_refusalOfPass : GoodIn wsX5_pass wsX3_refusalOfPass := goodIn_r _ [9] (by decide +kernel) (by decide +kernel)
set_option maxRecDepth 20000 in
theorem gX5_pass_X3_refusalOfPass : GoodIn wsX5_pass (wsV RX5 198 RX3 yX3_refusalOfPass wsX3_refusalOfPass) := goodIn_app (goodIn_of _ (by decide +kernel)) ggX5_pass_X3_refusalOfPass
set_option maxRecDepth 20000 in
theorem ggX5_pass_X4_remember : GoodIn wsX5_pass wsX4_remember := goodIn_r _ [14, 15, 16, 17, 13, 18, 19, 20, 21, 22, 23, 8, 24, 25, 26, 27, 28, 29, 30, 31, 32, 33, 34, 35, 36, 37, 38, 39, 40, 41, 42, 43, 44, 45, 46, 47, 48, 49, 50, 51, 52, 67, 68, 69, 70, 71, 72, 73, 74, 75, 76, 77, 78, 79, 80, 81, 82, 83, 84] (by decide +kernel) (by decide +kernel)
set_option maxRecDepth 20000 in
theorem gX5_pass_X4_remember : GoodIn wsX5_pass (wsV RX5 70 RX4 yX4_remember wsX4_remember) := goodIn_app (goodIn_of _ (by decide +kernel)) ggX5_pass_X4_remember
set_option maxRecDepth 20000 in
theorem ggX5_pass_X3_letPass : GoodIn wsX5_pass wsX3_letPass := goodIn_r _ [56, 39, 70, 71, 72, 73, 74, 75, 76, 77, 78, 79, 80, 81, 82, 83, 84] (by decide +kernel) (by decide +kernel)
set_option maxRecDepth 20000 in
theorem gX5_pass_X3_letPass : GoodIn wsX5_pass (wsV RX5 203 RX3 yX3_letPass wsX3_letPass) := goodIn_app (goodIn_of _ (by decide +kernel)) ggX5_pass_X3_letPass
theorem dX5_pass_0 : decode cX5_pass 0 = .ok (.aload_n 0, 1) := by decide +kernel
theorem dX5_pass_1 : decode cX5_pass 1 = .ok (.getfield 10, 3) := by decide +kernel
theorem dX5_pass_4 : decode cX5_pass 4 = .ok (.iload_n 1, 1) := by decide +kernel
theorem dX5_pass_5 : decode cX5_pass 5 = .ok (.invokevirtual 198, 3) := by decide +kernel
theorem dX5_pass_8 : decode cX5_pass 8 = .ok (.ifCond .eq 13, 3) := by decide +kernel
theorem dX5_pass_11 : decode cX5_pass 11 = .ok (.new 58, 3) := by decide +kernel
theorem dX5_pass_14 : decode cX5_pass 14 = .ok (.dup, 1) := by decide +kernel
theorem dX5_pass_15 : decode cX5_pass 15 = .ok (.ldc 201, 2) := by decide +kernel
theorem dX5_pass_17 : decode cX5_pass 17 = .ok (.invokespecial 62, 3) := by decide +kernel
theorem dX5_pass_20 : decode cX5_pass 20 = .ok (.athrow, 1) := by decide +kernel
theorem dX5_pass_21 : decode cX5_pass 21 = .ok (.aload_n 0, 1) := by decide +kernel
theorem dX5_pass_22 : decode cX5_pass 22 = .ok (.getfield 22, 3) := by decide +kernel
theorem dX5_pass_25 : decode cX5_pass 25 = .ok (.aload_n 0, 1) := by decide +kernel
theorem dX5_pass_26 : decode cX5_pass 26 = .ok (.getfield 10, 3) := by decide +kernel
theorem dX5_pass_29 : decode cX5_pass 29 = .ok (.invokevirtual 70, 3) := by decide +kernel
theorem dX5_pass_32 : decode cX5_pass 32 = .ok (.aload_n 0, 1) := by decide +kernel
theorem dX5_pass_33 : decode cX5_pass 33 = .ok (.getfield 10, 3) := by decide +kernel
theorem dX5_pass_36 : decode cX5_pass 36 = .ok (.iload_n 1, 1) := by decide +kernel
theorem dX5_pass_37 : decode cX5_pass 37 = .ok (.invokevirtual 203, 3) := by decide +kernel
theorem dX5_pass_40 : decode cX5_pass 40 = .ok (.ireturn, 1) := by decide +kernel
set_option maxRecDepth 20000 in
theorem ggX5_sweep_X3_refusalOfSweep : GoodIn wsX5_sweep wsX3_refusalOfSweep := goodIn_r _ [9] (by decide +kernel) (by decide +kernel)
set_option maxRecDepth 20000 in
theorem gX5_sweep_X3_refusalOfSweep : GoodIn wsX5_sweep (wsV RX5 206 RX3 yX3_refusalOfSweep wsX3_refusalOfSweep) := goodIn_app (goodIn_of _ (by decide +kernel)) ggX5_sweep_X3_refusalOfSweep
set_option maxRecDepth 20000 in
theorem ggX5_sweep_X4_remember : GoodIn wsX5_sweep wsX4_remember := goodIn_r _ [14, 15, 16, 17, 13, 18, 19, 20, 21, 22, 23, 8, 24, 25, 26, 27, 28, 29, 30, 31, 32, 33, 34, 35, 36, 37, 38, 39, 40, 41, 42, 43, 44, 45, 46, 47, 48, 49, 50, 51, 52, 117, 118, 119, 120, 121, 122, 123, 124, 125, 126, 127, 128, 129, 130, 131, 132, 133, 134] (by decide +kernel) (by decide +kernel)
set_option maxRecDepth 20000 in
theorem gX5_sweep_X4_remember : GoodIn wsX5_sweep (wsV RX5 70 RX4 yX4_remember wsX4_remember) := goodIn_app (goodIn_of _ (by decide +kernel)) ggX5_sweep_X4_remember
set_option maxRecDepth 20000 in
theorem ggX5_sweep_X3_sweepHats : GoodIn wsX5_sweep wsX3_sweepHats := goodIn_ca (goodIn_r _ [56, 40, 57, 58, 59, 8, 60, 31, 61, 62, 63, 64, 39, 32, 65, 66, 67, 68, 33, 69, 70, 71, 72, 73, 74, 75, 76, 77, 78, 79, 80, 42, 41, 81, 82, 83, 84, 34, 35, 85, 86, 87, 88, 89, 90, 91, 92, 30, 93, 94, 95, 96, 97, 98, 99, 100, 101, 102, 103, 104, 105, 106, 120, 121, 122, 123, 124, 125, 126, 127, 128, 129, 130, 131, 132, 133, 134] (by decide +kernel) (by decide +kernel)) (goodIn_sub (fun _ h => List.mem_cons_of_mem _ (List.mem_append_right _ h)) (by decide +kernel))
set_option maxRecDepth 20000 in
theorem gX5_sweep_X3_sweepHats : GoodIn wsX5_sweep (wsV RX5 211 RX3 yX3_sweepHats wsX3_sweepHats) := goodIn_app (goodIn_of _ (by decide +kernel)) ggX5_sweep_X3_sweepHats
theorem dX5_sweep_0 : decode cX5_sweep 0 = .ok (.aload_n 0, 1) := by decide +kernel
theorem dX5_sweep_1 : decode cX5_sweep 1 = .ok (.getfield 10, 3) := by decide +kernel
theorem dX5_sweep_4 : decode cX5_sweep 4 = .ok (.iload_n 1, 1) := by decide +kernel
theorem dX5_sweep_5 : decode cX5_sweep 5 = .ok (.invokevirtual 206, 3) := by decide +kernel
theorem dX5_sweep_8 : decode cX5_sweep 8 = .ok (.ifCond .eq 13, 3) := by decide +kernel
theorem dX5_sweep_11 : decode cX5_sweep 11 = .ok (.new 58, 3) := by decide +kernel
theorem dX5_sweep_14 : decode cX5_sweep 14 = .ok (.dup, 1) := by decide +kernel
theorem dX5_sweep_15 : decode cX5_sweep 15 = .ok (.ldc 209, 2) := by decide +kernel
theorem dX5_sweep_17 : decode cX5_sweep 17 = .ok (.invokespecial 62, 3) := by decide +kernel
theorem dX5_sweep_20 : decode cX5_sweep 20 = .ok (.athrow, 1) := by decide +kernel
theorem dX5_sweep_21 : decode cX5_sweep 21 = .ok (.aload_n 0, 1) := by decide +kernel
theorem dX5_sweep_22 : decode cX5_sweep 22 = .ok (.getfield 22, 3) := by decide +kernel
theorem dX5_sweep_25 : decode cX5_sweep 25 = .ok (.aload_n 0, 1) := by decide +kernel
theorem dX5_sweep_26 : decode cX5_sweep 26 = .ok (.getfield 10, 3) := by decide +kernel
theorem dX5_sweep_29 : decode cX5_sweep 29 = .ok (.invokevirtual 70, 3) := by decide +kernel
theorem dX5_sweep_32 : decode cX5_sweep 32 = .ok (.aload_n 0, 1) := by decide +kernel
theorem dX5_sweep_33 : decode cX5_sweep 33 = .ok (.getfield 10, 3) := by decide +kernel
theorem dX5_sweep_36 : decode cX5_sweep 36 = .ok (.iload_n 1, 1) := by decide +kernel
theorem dX5_sweep_37 : decode cX5_sweep 37 = .ok (.invokevirtual 211, 3) := by decide +kernel
theorem dX5_sweep_40 : decode cX5_sweep 40 = .ok (.ireturn, 1) := by decide +kernel
theorem dX5_now_0 : decode cX5_now 0 = .ok (.aload_n 0, 1) := by decide +kernel
theorem dX5_now_1 : decode cX5_now 1 = .ok (.getfield 10, 3) := by decide +kernel
theorem dX5_now_4 : decode cX5_now 4 = .ok (.getfield 214, 3) := by decide +kernel
theorem dX5_now_7 : decode cX5_now 7 = .ok (.ireturn, 1) := by decide +kernel
set_option maxRecDepth 20000 in
theorem ggX5_idlestGuest_X3_idlest : GoodIn wsX5_idlestGuest wsX3_idlest := goodIn_ca (goodIn_r _ [8, 9, 10, 11, 7, 12, 13, 14, 15, 16, 17, 18, 19, 30, 31, 32, 33, 34, 35, 36, 37, 38, 39, 40, 41, 42, 43, 44] (by decide +kernel) (by decide +kernel)) (goodIn_sub (fun _ h => List.mem_cons_of_mem _ (List.mem_append_right _ h)) (by decide +kernel))
set_option maxRecDepth 20000 in
theorem gX5_idlestGuest_X3_idlest : GoodIn wsX5_idlestGuest (wsV RX5 217 RX3 yX3_idlest wsX3_idlest) := goodIn_app (goodIn_of _ (by decide +kernel)) ggX5_idlestGuest_X3_idlest
theorem dX5_idlestGuest_0 : decode cX5_idlestGuest 0 = .ok (.aload_n 0, 1) := by decide +kernel
theorem dX5_idlestGuest_1 : decode cX5_idlestGuest 1 = .ok (.getfield 10, 3) := by decide +kernel
theorem dX5_idlestGuest_4 : decode cX5_idlestGuest 4 = .ok (.invokevirtual 217, 3) := by decide +kernel
theorem dX5_idlestGuest_7 : decode cX5_idlestGuest 7 = .ok (.istore_n 1, 1) := by decide +kernel
theorem dX5_idlestGuest_8 : decode cX5_idlestGuest 8 = .ok (.iload_n 1, 1) := by decide +kernel
theorem dX5_idlestGuest_9 : decode cX5_idlestGuest 9 = .ok (.iconst (-1), 1) := by decide +kernel
theorem dX5_idlestGuest_10 : decode cX5_idlestGuest 10 = .ok (.if_icmp .ne 13, 3) := by decide +kernel
theorem dX5_idlestGuest_13 : decode cX5_idlestGuest 13 = .ok (.new 170, 3) := by decide +kernel
theorem dX5_idlestGuest_16 : decode cX5_idlestGuest 16 = .ok (.dup, 1) := by decide +kernel
theorem dX5_idlestGuest_17 : decode cX5_idlestGuest 17 = .ok (.ldc 221, 2) := by decide +kernel
theorem dX5_idlestGuest_19 : decode cX5_idlestGuest 19 = .ok (.invokespecial 174, 3) := by decide +kernel
theorem dX5_idlestGuest_22 : decode cX5_idlestGuest 22 = .ok (.athrow, 1) := by decide +kernel
theorem dX5_idlestGuest_23 : decode cX5_idlestGuest 23 = .ok (.iload_n 1, 1) := by decide +kernel
theorem dX5_idlestGuest_24 : decode cX5_idlestGuest 24 = .ok (.ireturn, 1) := by decide +kernel
set_option maxRecDepth 20000 in
theorem ggX5_isCovered_X5_requireChair : GoodIn wsX5_isCovered wsX5_requireChair := goodIn_ca (goodIn_r _ [5, 6, 7, 8, 9, 10, 11] (by decide +kernel) (by decide +kernel)) (goodIn_sub (fun _ h => List.mem_cons_of_mem _ (List.mem_append_left _ (List.mem_append_right _ h))) (by decide +kernel))
set_option maxRecDepth 20000 in
theorem gX5_isCovered_X5_requireChair : GoodIn wsX5_isCovered (va_wsS RX5 161 yX5_requireChair wsX5_requireChair) := goodIn_app (goodIn_of _ (by decide +kernel)) ggX5_isCovered_X5_requireChair
set_option maxRecDepth 20000 in
theorem ggX5_isCovered_X3_covererAt : GoodIn wsX5_isCovered wsX3_covererAt := goodIn_ca (goodIn_r _ [15, 16, 27, 28, 29, 30, 31, 32, 33, 34, 35, 36, 37, 38, 39, 40, 41] (by decide +kernel) (by decide +kernel)) (goodIn_sub (fun _ h => List.mem_cons_of_mem _ (List.mem_append_right _ h)) (by decide +kernel))
set_option maxRecDepth 20000 in
theorem gX5_isCovered_X3_covererAt : GoodIn wsX5_isCovered (wsV RX5 192 RX3 yX3_covererAt wsX3_covererAt) := goodIn_app (goodIn_of _ (by decide +kernel)) ggX5_isCovered_X3_covererAt
theorem dX5_isCovered_0 : decode cX5_isCovered 0 = .ok (.iload_n 1, 1) := by decide +kernel
theorem dX5_isCovered_1 : decode cX5_isCovered 1 = .ok (.invokestatic 161, 3) := by decide +kernel
theorem dX5_isCovered_4 : decode cX5_isCovered 4 = .ok (.aload_n 0, 1) := by decide +kernel
theorem dX5_isCovered_5 : decode cX5_isCovered 5 = .ok (.getfield 10, 3) := by decide +kernel
theorem dX5_isCovered_8 : decode cX5_isCovered 8 = .ok (.iload_n 1, 1) := by decide +kernel
theorem dX5_isCovered_9 : decode cX5_isCovered 9 = .ok (.invokevirtual 192, 3) := by decide +kernel
theorem dX5_isCovered_12 : decode cX5_isCovered 12 = .ok (.iconst (-1), 1) := by decide +kernel
theorem dX5_isCovered_13 : decode cX5_isCovered 13 = .ok (.if_icmp .eq 7, 3) := by decide +kernel
theorem dX5_isCovered_16 : decode cX5_isCovered 16 = .ok (.iconst 1, 1) := by decide +kernel
theorem dX5_isCovered_17 : decode cX5_isCovered 17 = .ok (.goto 4, 3) := by decide +kernel
theorem dX5_isCovered_20 : decode cX5_isCovered 20 = .ok (.iconst 0, 1) := by decide +kernel
theorem dX5_isCovered_21 : decode cX5_isCovered 21 = .ok (.ireturn, 1) := by decide +kernel
set_option maxRecDepth 20000 in
theorem ggX5_covererOf_X5_requireChair : GoodIn wsX5_covererOf wsX5_requireChair := goodIn_ca (goodIn_r _ [7, 8, 9, 10, 11, 12, 13] (by decide +kernel) (by decide +kernel)) (goodIn_sub (fun _ h => List.mem_cons_of_mem _ (List.mem_append_left _ (List.mem_append_right _ h))) (by decide +kernel))
set_option maxRecDepth 20000 in
theorem gX5_covererOf_X5_requireChair : GoodIn wsX5_covererOf (va_wsS RX5 161 yX5_requireChair wsX5_requireChair) := goodIn_app (goodIn_of _ (by decide +kernel)) ggX5_covererOf_X5_requireChair
set_option maxRecDepth 20000 in
theorem ggX5_covererOf_X3_covererAt : GoodIn wsX5_covererOf wsX3_covererAt := goodIn_ca (goodIn_r _ [17, 18, 29, 30, 31, 32, 33, 34, 35, 36, 37, 38, 39, 40, 41, 42, 43] (by decide +kernel) (by decide +kernel)) (goodIn_sub (fun _ h => List.mem_cons_of_mem _ (List.mem_append_right _ h)) (by decide +kernel))
set_option maxRecDepth 20000 in
theorem gX5_covererOf_X3_covererAt : GoodIn wsX5_covererOf (wsV RX5 192 RX3 yX3_covererAt wsX3_covererAt) := goodIn_app (goodIn_of _ (by decide +kernel)) ggX5_covererOf_X3_covererAt
theorem dX5_covererOf_0 : decode cX5_covererOf 0 = .ok (.iload_n 1, 1) := by decide +kernel
theorem dX5_covererOf_1 : decode cX5_covererOf 1 = .ok (.invokestatic 161, 3) := by decide +kernel
theorem dX5_covererOf_4 : decode cX5_covererOf 4 = .ok (.aload_n 0, 1) := by decide +kernel
theorem dX5_covererOf_5 : decode cX5_covererOf 5 = .ok (.getfield 10, 3) := by decide +kernel
theorem dX5_covererOf_8 : decode cX5_covererOf 8 = .ok (.iload_n 1, 1) := by decide +kernel
theorem dX5_covererOf_9 : decode cX5_covererOf 9 = .ok (.invokevirtual 192, 3) := by decide +kernel
theorem dX5_covererOf_12 : decode cX5_covererOf 12 = .ok (.istore_n 2, 1) := by decide +kernel
theorem dX5_covererOf_13 : decode cX5_covererOf 13 = .ok (.iload_n 2, 1) := by decide +kernel
theorem dX5_covererOf_14 : decode cX5_covererOf 14 = .ok (.iconst (-1), 1) := by decide +kernel
theorem dX5_covererOf_15 : decode cX5_covererOf 15 = .ok (.if_icmp .ne 13, 3) := by decide +kernel
theorem dX5_covererOf_18 : decode cX5_covererOf 18 = .ok (.new 170, 3) := by decide +kernel
theorem dX5_covererOf_21 : decode cX5_covererOf 21 = .ok (.dup, 1) := by decide +kernel
theorem dX5_covererOf_22 : decode cX5_covererOf 22 = .ok (.ldc 186, 2) := by decide +kernel
theorem dX5_covererOf_24 : decode cX5_covererOf 24 = .ok (.invokespecial 174, 3) := by decide +kernel
theorem dX5_covererOf_27 : decode cX5_covererOf 27 = .ok (.athrow, 1) := by decide +kernel
theorem dX5_covererOf_28 : decode cX5_covererOf 28 = .ok (.iload_n 2, 1) := by decide +kernel
theorem dX5_covererOf_29 : decode cX5_covererOf 29 = .ok (.ireturn, 1) := by decide +kernel
set_option maxRecDepth 20000 in
theorem ggX5_coveredMask_X3_coveredChairs : GoodIn wsX5_coveredMask wsX3_coveredChairs := goodIn_ca (goodIn_r _ [6, 7, 18, 19, 20, 21, 22, 23, 24, 25, 26, 27, 28, 29, 30, 31, 32] (by decide +kernel) (by decide +kernel)) (goodIn_sub (fun _ h => List.mem_cons_of_mem _ (List.mem_append_right _ h)) (by decide +kernel))
set_option maxRecDepth 20000 in
theorem gX5_coveredMask_X3_coveredChairs : GoodIn wsX5_coveredMask (wsV RX5 223 RX3 yX3_coveredChairs wsX3_coveredChairs) := goodIn_app (goodIn_of _ (by decide +kernel)) ggX5_coveredMask_X3_coveredChairs
theorem dX5_coveredMask_0 : decode cX5_coveredMask 0 = .ok (.aload_n 0, 1) := by decide +kernel
theorem dX5_coveredMask_1 : decode cX5_coveredMask 1 = .ok (.getfield 10, 3) := by decide +kernel
theorem dX5_coveredMask_4 : decode cX5_coveredMask 4 = .ok (.invokevirtual 223, 3) := by decide +kernel
theorem dX5_coveredMask_7 : decode cX5_coveredMask 7 = .ok (.lreturn, 1) := by decide +kernel
set_option maxRecDepth 20000 in
theorem ggX5_coveredCount_X3_countByChair : GoodIn wsX5_coveredCount wsX3_countByChair := goodIn_ca (goodIn_r _ [6, 7, 8, 9, 5, 10, 11, 22, 23, 24, 25, 26, 27, 28, 29, 30, 31, 32, 33, 34, 35, 36] (by decide +kernel) (by decide +kernel)) (goodIn_sub (fun _ h => List.mem_cons_of_mem _ (List.mem_append_right _ h)) (by decide +kernel))
set_option maxRecDepth 20000 in
theorem gX5_coveredCount_X3_countByChair : GoodIn wsX5_coveredCount (wsV RX5 227 RX3 yX3_countByChair wsX3_countByChair) := goodIn_app (goodIn_of _ (by decide +kernel)) ggX5_coveredCount_X3_countByChair
theorem dX5_coveredCount_0 : decode cX5_coveredCount 0 = .ok (.aload_n 0, 1) := by decide +kernel
theorem dX5_coveredCount_1 : decode cX5_coveredCount 1 = .ok (.getfield 10, 3) := by decide +kernel
theorem dX5_coveredCount_4 : decode cX5_coveredCount 4 = .ok (.invokevirtual 227, 3) := by decide +kernel
theorem dX5_coveredCount_7 : decode cX5_coveredCount 7 = .ok (.ireturn, 1) := by decide +kernel
set_option maxRecDepth 20000 in
theorem ggX5_longestFreeRun_X5_requireRow : GoodIn wsX5_longestFreeRun wsX5_requireRow := goodIn_ca (goodIn_r _ [5, 6, 7] (by decide +kernel) (by decide +kernel)) (goodIn_sub (fun _ h => List.mem_cons_of_mem _ (List.mem_append_left _ (List.mem_append_right _ h))) (by decide +kernel))
set_option maxRecDepth 20000 in
theorem gX5_longestFreeRun_X5_requireRow : GoodIn wsX5_longestFreeRun (va_wsS RX5 233 yX5_requireRow wsX5_requireRow) := goodIn_app (goodIn_of _ (by decide +kernel)) ggX5_longestFreeRun_X5_requireRow
set_option maxRecDepth 20000 in
theorem ggX5_longestFreeRun_X3_freeRunByScan : GoodIn wsX5_longestFreeRun wsX3_freeRunByScan := goodIn_ca (goodIn_r _ [12, 13, 14, 15, 16, 17, 18, 19, 11, 20, 21, 32, 33, 34, 35, 36, 37, 38, 39, 40, 41, 42, 43, 44, 45, 46] (by decide +kernel) (by decide +kernel)) (goodIn_sub (fun _ h => List.mem_cons_of_mem _ (List.mem_append_right _ h)) (by decide +kernel))
set_option maxRecDepth 20000 in
theorem gX5_longestFreeRun_X3_freeRunByScan : GoodIn wsX5_longestFreeRun (wsV RX5 236 RX3 yX3_freeRunByScan wsX3_freeRunByScan) := goodIn_app (goodIn_of _ (by decide +kernel)) ggX5_longestFreeRun_X3_freeRunByScan
theorem dX5_longestFreeRun_0 : decode cX5_longestFreeRun 0 = .ok (.iload_n 1, 1) := by decide +kernel
theorem dX5_longestFreeRun_1 : decode cX5_longestFreeRun 1 = .ok (.invokestatic 233, 3) := by decide +kernel
theorem dX5_longestFreeRun_4 : decode cX5_longestFreeRun 4 = .ok (.aload_n 0, 1) := by decide +kernel
theorem dX5_longestFreeRun_5 : decode cX5_longestFreeRun 5 = .ok (.getfield 10, 3) := by decide +kernel
theorem dX5_longestFreeRun_8 : decode cX5_longestFreeRun 8 = .ok (.iload_n 1, 1) := by decide +kernel
theorem dX5_longestFreeRun_9 : decode cX5_longestFreeRun 9 = .ok (.invokevirtual 236, 3) := by decide +kernel
theorem dX5_longestFreeRun_12 : decode cX5_longestFreeRun 12 = .ok (.ireturn, 1) := by decide +kernel
set_option maxRecDepth 20000 in
theorem ggX5_longestFreeRunByMask_X5_requireRow : GoodIn wsX5_longestFreeRunByMask wsX5_requireRow := goodIn_ca (goodIn_r _ [5, 6, 7] (by decide +kernel) (by decide +kernel)) (goodIn_sub (fun _ h => List.mem_cons_of_mem _ (List.mem_append_left _ (List.mem_append_right _ h))) (by decide +kernel))
set_option maxRecDepth 20000 in
theorem gX5_longestFreeRunByMask_X5_requireRow : GoodIn wsX5_longestFreeRunByMask (va_wsS RX5 233 yX5_requireRow wsX5_requireRow) := goodIn_app (goodIn_of _ (by decide +kernel)) ggX5_longestFreeRunByMask_X5_requireRow
set_option maxRecDepth 20000 in
theorem ggX5_longestFreeRunByMask_X3_freeRunByShift : GoodIn wsX5_longestFreeRunByMask wsX3_freeRunByShift := goodIn_ca (goodIn_r _ [12, 13, 14, 15, 16, 17, 11, 18, 19, 30, 31, 32, 33, 34, 35, 36, 37, 38, 39, 40, 41, 42, 43, 44] (by decide +kernel) (by decide +kernel)) (goodIn_sub (fun _ h => List.mem_cons_of_mem _ (List.mem_append_right _ h)) (by decide +kernel))
set_option maxRecDepth 20000 in
theorem gX5_longestFreeRunByMask_X3_freeRunByShift : GoodIn wsX5_longestFreeRunByMask (wsV RX5 239 RX3 yX3_freeRunByShift wsX3_freeRunByShift) := goodIn_app (goodIn_of _ (by decide +kernel)) ggX5_longestFreeRunByMask_X3_freeRunByShift
theorem dX5_longestFreeRunByMask_0 : decode cX5_longestFreeRunByMask 0 = .ok (.iload_n 1, 1) := by decide +kernel
theorem dX5_longestFreeRunByMask_1 : decode cX5_longestFreeRunByMask 1 = .ok (.invokestatic 233, 3) := by decide +kernel
theorem dX5_longestFreeRunByMask_4 : decode cX5_longestFreeRunByMask 4 = .ok (.aload_n 0, 1) := by decide +kernel
theorem dX5_longestFreeRunByMask_5 : decode cX5_longestFreeRunByMask 5 = .ok (.getfield 10, 3) := by decide +kernel
theorem dX5_longestFreeRunByMask_8 : decode cX5_longestFreeRunByMask 8 = .ok (.iload_n 1, 1) := by decide +kernel
theorem dX5_longestFreeRunByMask_9 : decode cX5_longestFreeRunByMask 9 = .ok (.invokevirtual 239, 3) := by decide +kernel
theorem dX5_longestFreeRunByMask_12 : decode cX5_longestFreeRunByMask 12 = .ok (.ireturn, 1) := by decide +kernel
set_option maxRecDepth 20000 in
theorem ggX5_guestAtRank_X3_guestBehind : GoodIn wsX5_guestAtRank wsX3_guestBehind := goodIn_ca (goodIn_r _ [8, 9, 10, 11, 12, 7, 13, 14, 15, 16, 17, 18, 19, 20, 21, 22, 23, 24, 25, 26, 27, 28, 29, 30, 41, 42, 43, 44, 45, 46, 47, 48, 49, 50, 51, 52, 53, 54, 55] (by decide +kernel) (by decide +kernel)) (goodIn_sub (fun _ h => List.mem_cons_of_mem _ (List.mem_append_right _ h)) (by decide +kernel))
set_option maxRecDepth 20000 in
theorem gX5_guestAtRank_X3_guestBehind : GoodIn wsX5_guestAtRank (wsV RX5 242 RX3 yX3_guestBehind wsX3_guestBehind) := goodIn_app (goodIn_of _ (by decide +kernel)) ggX5_guestAtRank_X3_guestBehind
theorem dX5_guestAtRank_0 : decode cX5_guestAtRank 0 = .ok (.aload_n 0, 1) := by decide +kernel
theorem dX5_guestAtRank_1 : decode cX5_guestAtRank 1 = .ok (.getfield 10, 3) := by decide +kernel
theorem dX5_guestAtRank_4 : decode cX5_guestAtRank 4 = .ok (.iload_n 1, 1) := by decide +kernel
theorem dX5_guestAtRank_5 : decode cX5_guestAtRank 5 = .ok (.invokevirtual 242, 3) := by decide +kernel
theorem dX5_guestAtRank_8 : decode cX5_guestAtRank 8 = .ok (.istore_n 2, 1) := by decide +kernel
theorem dX5_guestAtRank_9 : decode cX5_guestAtRank 9 = .ok (.iload_n 2, 1) := by decide +kernel
theorem dX5_guestAtRank_10 : decode cX5_guestAtRank 10 = .ok (.iconst (-1), 1) := by decide +kernel
theorem dX5_guestAtRank_11 : decode cX5_guestAtRank 11 = .ok (.if_icmp .ne 13, 3) := by decide +kernel
theorem dX5_guestAtRank_14 : decode cX5_guestAtRank 14 = .ok (.new 170, 3) := by decide +kernel
theorem dX5_guestAtRank_17 : decode cX5_guestAtRank 17 = .ok (.dup, 1) := by decide +kernel
theorem dX5_guestAtRank_18 : decode cX5_guestAtRank 18 = .ok (.ldc 245, 2) := by decide +kernel
theorem dX5_guestAtRank_20 : decode cX5_guestAtRank 20 = .ok (.invokespecial 174, 3) := by decide +kernel
theorem dX5_guestAtRank_23 : decode cX5_guestAtRank 23 = .ok (.athrow, 1) := by decide +kernel
theorem dX5_guestAtRank_24 : decode cX5_guestAtRank 24 = .ok (.iload_n 2, 1) := by decide +kernel
theorem dX5_guestAtRank_25 : decode cX5_guestAtRank 25 = .ok (.ireturn, 1) := by decide +kernel
theorem dX5_sweptTotal_0 : decode cX5_sweptTotal 0 = .ok (.aload_n 0, 1) := by decide +kernel
theorem dX5_sweptTotal_1 : decode cX5_sweptTotal 1 = .ok (.getfield 10, 3) := by decide +kernel
theorem dX5_sweptTotal_4 : decode cX5_sweptTotal 4 = .ok (.getfield 247, 3) := by decide +kernel
theorem dX5_sweptTotal_7 : decode cX5_sweptTotal 7 = .ok (.ireturn, 1) := by decide +kernel
theorem dX5_lapsedTotal_0 : decode cX5_lapsedTotal 0 = .ok (.aload_n 0, 1) := by decide +kernel
theorem dX5_lapsedTotal_1 : decode cX5_lapsedTotal 1 = .ok (.getfield 10, 3) := by decide +kernel
theorem dX5_lapsedTotal_4 : decode cX5_lapsedTotal 4 = .ok (.getfield 250, 3) := by decide +kernel
theorem dX5_lapsedTotal_7 : decode cX5_lapsedTotal 7 = .ok (.ireturn, 1) := by decide +kernel
theorem dX5_offersTaken_0 : decode cX5_offersTaken 0 = .ok (.aload_n 0, 1) := by decide +kernel
theorem dX5_offersTaken_1 : decode cX5_offersTaken 1 = .ok (.getfield 10, 3) := by decide +kernel
theorem dX5_offersTaken_4 : decode cX5_offersTaken 4 = .ok (.getfield 253, 3) := by decide +kernel
theorem dX5_offersTaken_7 : decode cX5_offersTaken 7 = .ok (.ireturn, 1) := by decide +kernel
theorem dX5_contestsWon_0 : decode cX5_contestsWon 0 = .ok (.aload_n 0, 1) := by decide +kernel
theorem dX5_contestsWon_1 : decode cX5_contestsWon 1 = .ok (.getfield 10, 3) := by decide +kernel
theorem dX5_contestsWon_4 : decode cX5_contestsWon 4 = .ok (.getfield 256, 3) := by decide +kernel
theorem dX5_contestsWon_7 : decode cX5_contestsWon 7 = .ok (.ireturn, 1) := by decide +kernel
set_option maxRecDepth 20000 in
theorem ggX5_append_X2_isFull : GoodIn wsX5_append wsX2_isFull := goodIn_r _ [10, 11, 27, 28, 29, 30, 31, 32, 33] (by decide +kernel) (by decide +kernel)
set_option maxRecDepth 20000 in
theorem gX5_append_X2_isFull : GoodIn wsX5_append (wsV RX5 261 RX2 yX2_isFull wsX2_isFull) := goodIn_app (goodIn_of _ (by decide +kernel)) ggX5_append_X2_isFull
set_option maxRecDepth 20000 in
theorem ggX5_append_X2_add : GoodIn wsX5_append wsX2_add := goodIn_ca (goodIn_r _ [15, 16, 11, 27, 28, 29, 30, 31, 32, 33] (by decide +kernel) (by decide +kernel)) (goodIn_sub (fun _ h => List.mem_cons_of_mem _ (List.mem_append_right _ h)) (by decide +kernel))
set_option maxRecDepth 20000 in
theorem gX5_append_X2_add : GoodIn wsX5_append (wsV RX5 267 RX2 yX2_add wsX2_add) := goodIn_app (goodIn_of _ (by decide +kernel)) ggX5_append_X2_add
theorem dX5_append_0 : decode cX5_append 0 = .ok (.iload_n 1, 1) := by decide +kernel
theorem dX5_append_1 : decode cX5_append 1 = .ok (.bipush 32, 2) := by decide +kernel
theorem dX5_append_3 : decode cX5_append 3 = .ok (.if_icmp .lt 9, 3) := by decide +kernel
theorem dX5_append_6 : decode cX5_append 6 = .ok (.iload_n 1, 1) := by decide +kernel
theorem dX5_append_7 : decode cX5_append 7 = .ok (.bipush 126, 2) := by decide +kernel
theorem dX5_append_9 : decode cX5_append 9 = .ok (.if_icmp .le 14, 3) := by decide +kernel
theorem dX5_append_12 : decode cX5_append 12 = .ok (.new 58, 3) := by decide +kernel
theorem dX5_append_15 : decode cX5_append 15 = .ok (.dup, 1) := by decide +kernel
theorem dX5_append_16 : decode cX5_append 16 = .ok (.ldc_w 259, 3) := by decide +kernel
theorem dX5_append_19 : decode cX5_append 19 = .ok (.invokespecial 62, 3) := by decide +kernel
theorem dX5_append_22 : decode cX5_append 22 = .ok (.athrow, 1) := by decide +kernel
theorem dX5_append_23 : decode cX5_append 23 = .ok (.aload_n 0, 1) := by decide +kernel
theorem dX5_append_24 : decode cX5_append 24 = .ok (.getfield 29, 3) := by decide +kernel
theorem dX5_append_27 : decode cX5_append 27 = .ok (.invokevirtual 261, 3) := by decide +kernel
theorem dX5_append_30 : decode cX5_append 30 = .ok (.ifCond .eq 14, 3) := by decide +kernel
theorem dX5_append_33 : decode cX5_append 33 = .ok (.new 65, 3) := by decide +kernel
theorem dX5_append_36 : decode cX5_append 36 = .ok (.dup, 1) := by decide +kernel
theorem dX5_append_37 : decode cX5_append 37 = .ok (.ldc_w 265, 3) := by decide +kernel
theorem dX5_append_40 : decode cX5_append 40 = .ok (.invokespecial 69, 3) := by decide +kernel
theorem dX5_append_43 : decode cX5_append 43 = .ok (.athrow, 1) := by decide +kernel
theorem dX5_append_44 : decode cX5_append 44 = .ok (.aload_n 0, 1) := by decide +kernel
theorem dX5_append_45 : decode cX5_append 45 = .ok (.getfield 29, 3) := by decide +kernel
theorem dX5_append_48 : decode cX5_append 48 = .ok (.iload_n 1, 1) := by decide +kernel
theorem dX5_append_49 : decode cX5_append 49 = .ok (.invokevirtual 267, 3) := by decide +kernel
theorem dX5_append_52 : decode cX5_append 52 = .ok (.ireturn, 1) := by decide +kernel
set_option maxRecDepth 20000 in
theorem ggX5_run_X2_read : GoodIn wsX5_run wsX2_read := goodIn_ca (goodIn_r _ [20, 21, 22, 23, 24, 25, 26, 19, 27, 28, 29, 30, 31, 32, 33, 34, 35, 36, 37, 38, 39, 40, 41, 42, 43, 44, 45, 46, 47, 48, 49, 50, 51, 52, 53, 54, 55, 56, 57, 58, 59, 60, 61, 62, 63, 64, 65, 66, 67, 68, 69, 70, 71, 72, 73, 74, 75, 76, 77, 78, 79, 80, 81, 82, 83, 84, 85, 86, 87, 88, 89, 90, 91, 92, 93, 94, 95, 96, 97, 98, 99, 100, 101, 102, 103, 104, 105, 106, 107, 108, 324, 325, 326, 327, 328, 329, 330, 331, 332, 333, 334] (by decide +kernel) (by decide +kernel)) (goodIn_sub (fun _ h => List.mem_cons_of_mem _ (List.mem_append_left _ (List.mem_append_right _ h))) (by decide +kernel))
set_option maxRecDepth 20000 in
theorem gX5_run_X2_read : GoodIn wsX5_run (wsV RX5 271 RX2 yX2_read wsX2_read) := goodIn_app (goodIn_of _ (by decide +kernel)) ggX5_run_X2_read
set_option maxRecDepth 20000 in
theorem ggX5_run_X2_empty : GoodIn wsX5_run wsX2_empty := goodIn_r _ [112, 23, 324, 325, 326, 327, 328, 329, 330] (by decide +kernel) (by decide +kernel)
set_option maxRecDepth 20000 in
theorem gX5_run_X2_empty : GoodIn wsX5_run (wsV RX5 274 RX2 yX2_empty wsX2_empty) := goodIn_app (goodIn_of _ (by decide +kernel)) ggX5_run_X2_empty
set_option maxRecDepth 20000 in
theorem ggX5_run_X4_prepare : GoodIn wsX5_run wsX4_prepare := goodIn_r _ [117, 118, 119, 120, 121, 122, 123, 124, 125, 126, 127, 128, 129, 130, 131, 132, 133, 134, 135, 136, 137, 138, 139, 140, 141, 142, 143, 335, 336, 337, 338, 339, 340, 341, 342, 343, 344, 345, 346, 347, 348, 349, 350, 351, 352] (by decide +kernel) (by decide +kernel)
set_option maxRecDepth 20000 in
theorem gX5_run_X4_prepare : GoodIn wsX5_run (wsV RX5 282 RX4 yX4_prepare wsX4_prepare) := goodIn_app (goodIn_of _ (by decide +kernel)) ggX5_run_X4_prepare
set_option maxRecDepth 20000 in
theorem ggX5_run_X1_refusalIn : GoodIn wsX5_run wsX1_refusalIn := goodIn_ca (goodIn_r _ [148, 149, 150, 151, 152, 153, 154, 155, 156, 157, 158, 159, 123, 160, 138, 161, 162, 163, 164, 165, 166, 167, 168, 169, 170, 171, 172, 173, 174, 175, 131, 176, 177, 178, 179, 133, 180, 181, 182, 183, 184, 185, 186, 187, 134, 188, 189, 190, 191, 192, 193, 194, 195, 196, 197, 198, 199, 200, 201, 202, 203, 204, 205, 206, 207, 208, 209, 210, 211, 125, 338, 339, 340, 341, 342, 343, 344, 345, 346, 347, 348, 349, 350, 351, 352] (by decide +kernel) (by decide +kernel)) (goodIn_sub (fun _ h => List.mem_cons_of_mem _ (List.mem_append_left _ (List.mem_append_right _ h))) (by decide +kernel))
set_option maxRecDepth 20000 in
theorem gX5_run_X1_refusalIn : GoodIn wsX5_run (wsV RX5 298 RX1 yX1_refusalIn wsX1_refusalIn) := goodIn_app (goodIn_of _ (by decide +kernel)) ggX5_run_X1_refusalIn
set_option maxRecDepth 20000 in
theorem ggX5_run_X4_takeBack : GoodIn wsX5_run wsX4_takeBack := goodIn_r _ [215, 118, 119, 120, 121, 122, 123, 124, 125, 126, 127, 128, 129, 130, 131, 132, 133, 134, 135, 136, 137, 138, 139, 140, 141, 142, 143, 335, 336, 337, 338, 339, 340, 341, 342, 343, 344, 345, 346, 347, 348, 349, 350, 351, 352] (by decide +kernel) (by decide +kernel)
set_option maxRecDepth 20000 in
theorem gX5_run_X4_takeBack : GoodIn wsX5_run (wsV RX5 304 RX4 yX4_takeBack wsX4_takeBack) := goodIn_app (goodIn_of _ (by decide +kernel)) ggX5_run_X4_takeBack
set_option maxRecDepth 20000 in
theorem ggX5_run_X1_carryOutIn : GoodIn wsX5_run wsX1_carryOutIn := goodIn_ca (goodIn_r _ [219, 149, 150, 151, 152, 153, 154, 155, 156, 220, 221, 222, 123, 223, 138, 125, 130, 224, 225, 226, 227, 131, 132, 139, 133, 228, 229, 230, 231, 232, 233, 234, 235, 236, 237, 238, 239, 240, 241, 242, 243, 244, 245, 246, 247, 248, 249, 250, 251, 252, 253, 176, 177, 178, 179, 254, 255, 256, 257, 142, 141, 258, 259, 260, 261, 134, 135, 262, 263, 264, 265, 172, 173, 174, 175, 266, 267, 268, 269, 270, 271, 272, 273, 274, 275, 276, 277, 278, 137, 136, 188, 189, 190, 191, 279, 280, 281, 282, 283, 284, 40, 41, 42, 143, 285, 286, 287, 288, 289, 290, 291, 292, 293, 294, 295, 296, 297, 298, 299, 300, 301, 140, 302, 303, 304, 305, 338, 339, 340, 341, 342, 343, 344, 345, 346, 347, 348, 349, 350, 351, 352] (by decide +kernel) (by decide +kernel)) (goodIn_sub (fun _ h => List.mem_cons_of_mem _ (List.mem_append_left _ (List.mem_append_right _ h))) (by decide +kernel))
set_option maxRecDepth 20000 in
theorem gX5_run_X1_carryOutIn : GoodIn wsX5_run (wsV RX5 309 RX1 yX1_carryOutIn wsX1_carryOutIn) := goodIn_app (goodIn_of _ (by decide +kernel)) ggX5_run_X1_carryOutIn
set_option maxRecDepth 20000 in
theorem ggX5_run_X4_keep : GoodIn wsX5_run wsX4_keep := goodIn_r _ [309, 119, 310, 311, 312, 41, 313, 335, 336, 337] (by decide +kernel) (by decide +kernel)
set_option maxRecDepth 20000 in
theorem gX5_run_X4_keep : GoodIn wsX5_run (wsV RX5 313 RX4 yX4_keep wsX4_keep) := goodIn_app (goodIn_of _ (by decide +kernel)) ggX5_run_X4_keep
theorem dX5_run_0 : decode cX5_run 0 = .ok (.aload_n 0, 1) := by decide +kernel
theorem dX5_run_1 : decode cX5_run 1 = .ok (.getfield 29, 3) := by decide +kernel
theorem dX5_run_4 : decode cX5_run 4 = .ok (.invokevirtual 271, 3) := by decide +kernel
theorem dX5_run_7 : decode cX5_run 7 = .ok (.istore_n 1, 1) := by decide +kernel
theorem dX5_run_8 : decode cX5_run 8 = .ok (.aload_n 0, 1) := by decide +kernel
theorem dX5_run_9 : decode cX5_run 9 = .ok (.getfield 29, 3) := by decide +kernel
theorem dX5_run_12 : decode cX5_run 12 = .ok (.invokevirtual 274, 3) := by decide +kernel
theorem dX5_run_15 : decode cX5_run 15 = .ok (.iload_n 1, 1) := by decide +kernel
theorem dX5_run_16 : decode cX5_run 16 = .ok (.ifCond .ne 25, 3) := by decide +kernel
theorem dX5_run_19 : decode cX5_run 19 = .ok (.aload_n 0, 1) := by decide +kernel
theorem dX5_run_20 : decode cX5_run 20 = .ok (.aload_n 0, 1) := by decide +kernel
theorem dX5_run_21 : decode cX5_run 21 = .ok (.getfield 29, 3) := by decide +kernel
theorem dX5_run_24 : decode cX5_run 24 = .ok (.getfield 277, 3) := by decide +kernel
theorem dX5_run_27 : decode cX5_run 27 = .ok (.putfield 45, 3) := by decide +kernel
theorem dX5_run_30 : decode cX5_run 30 = .ok (.new 58, 3) := by decide +kernel
theorem dX5_run_33 : decode cX5_run 33 = .ok (.dup, 1) := by decide +kernel
theorem dX5_run_34 : decode cX5_run 34 = .ok (.ldc_w 280, 3) := by decide +kernel
theorem dX5_run_37 : decode cX5_run 37 = .ok (.invokespecial 62, 3) := by decide +kernel
theorem dX5_run_40 : decode cX5_run 40 = .ok (.athrow, 1) := by decide +kernel
theorem dX5_run_41 : decode cX5_run 41 = .ok (.aload_n 0, 1) := by decide +kernel
theorem dX5_run_42 : decode cX5_run 42 = .ok (.getfield 22, 3) := by decide +kernel
theorem dX5_run_45 : decode cX5_run 45 = .ok (.aload_n 0, 1) := by decide +kernel
theorem dX5_run_46 : decode cX5_run 46 = .ok (.getfield 10, 3) := by decide +kernel
theorem dX5_run_49 : decode cX5_run 49 = .ok (.invokevirtual 282, 3) := by decide +kernel
theorem dX5_run_52 : decode cX5_run 52 = .ok (.iconst 0, 1) := by decide +kernel
theorem dX5_run_53 : decode cX5_run 53 = .ok (.istore_n 2, 1) := by decide +kernel
theorem dX5_run_54 : decode cX5_run 54 = .ok (.iload_n 2, 1) := by decide +kernel
theorem dX5_run_55 : decode cX5_run 55 = .ok (.bipush 10, 2) := by decide +kernel
theorem dX5_run_57 : decode cX5_run 57 = .ok (.if_icmp .ge 116, 3) := by decide +kernel
theorem dX5_run_60 : decode cX5_run 60 = .ok (.iload_n 2, 1) := by decide +kernel
theorem dX5_run_61 : decode cX5_run 61 = .ok (.aload_n 0, 1) := by decide +kernel
theorem dX5_run_62 : decode cX5_run 62 = .ok (.getfield 29, 3) := by decide +kernel
theorem dX5_run_65 : decode cX5_run 65 = .ok (.getfield 285, 3) := by decide +kernel
theorem dX5_run_68 : decode cX5_run 68 = .ok (.if_icmp .ge 105, 3) := by decide +kernel
theorem dX5_run_71 : decode cX5_run 71 = .ok (.aload_n 0, 1) := by decide +kernel
theorem dX5_run_72 : decode cX5_run 72 = .ok (.getfield 29, 3) := by decide +kernel
theorem dX5_run_75 : decode cX5_run 75 = .ok (.getfield 288, 3) := by decide +kernel
theorem dX5_run_78 : decode cX5_run 78 = .ok (.iload_n 2, 1) := by decide +kernel
theorem dX5_run_79 : decode cX5_run 79 = .ok (.aaload, 1) := by decide +kernel
theorem dX5_run_80 : decode cX5_run 80 = .ok (.astore_n 3, 1) := by decide +kernel
theorem dX5_run_81 : decode cX5_run 81 = .ok (.aload_n 0, 1) := by decide +kernel
theorem dX5_run_82 : decode cX5_run 82 = .ok (.getfield 29, 3) := by decide +kernel
theorem dX5_run_85 : decode cX5_run 85 = .ok (.getfield 292, 3) := by decide +kernel
theorem dX5_run_88 : decode cX5_run 88 = .ok (.iload_n 2, 1) := by decide +kernel
theorem dX5_run_89 : decode cX5_run 89 = .ok (.iaload, 1) := by decide +kernel
theorem dX5_run_90 : decode cX5_run 90 = .ok (.istore 4, 2) := by decide +kernel
theorem dX5_run_92 : decode cX5_run 92 = .ok (.aload_n 0, 1) := by decide +kernel
theorem dX5_run_93 : decode cX5_run 93 = .ok (.getfield 29, 3) := by decide +kernel
theorem dX5_run_96 : decode cX5_run 96 = .ok (.getfield 295, 3) := by decide +kernel
theorem dX5_run_99 : decode cX5_run 99 = .ok (.iload_n 2, 1) := by decide +kernel
theorem dX5_run_100 : decode cX5_run 100 = .ok (.iaload, 1) := by decide +kernel
theorem dX5_run_101 : decode cX5_run 101 = .ok (.istore 5, 2) := by decide +kernel
theorem dX5_run_103 : decode cX5_run 103 = .ok (.aload_n 3, 1) := by decide +kernel
theorem dX5_run_104 : decode cX5_run 104 = .ok (.aload_n 0, 1) := by decide +kernel
theorem dX5_run_105 : decode cX5_run 105 = .ok (.getfield 10, 3) := by decide +kernel
theorem dX5_run_108 : decode cX5_run 108 = .ok (.iload 4, 2) := by decide +kernel
theorem dX5_run_110 : decode cX5_run 110 = .ok (.iload 5, 2) := by decide +kernel
theorem dX5_run_112 : decode cX5_run 112 = .ok (.invokevirtual 298, 3) := by decide +kernel
theorem dX5_run_115 : decode cX5_run 115 = .ok (.istore 6, 2) := by decide +kernel
theorem dX5_run_117 : decode cX5_run 117 = .ok (.iload 6, 2) := by decide +kernel
theorem dX5_run_119 : decode cX5_run 119 = .ok (.ifCond .eq 36, 3) := by decide +kernel
theorem dX5_run_122 : decode cX5_run 122 = .ok (.aload_n 0, 1) := by decide +kernel
theorem dX5_run_123 : decode cX5_run 123 = .ok (.getfield 22, 3) := by decide +kernel
theorem dX5_run_126 : decode cX5_run 126 = .ok (.aload_n 0, 1) := by decide +kernel
theorem dX5_run_127 : decode cX5_run 127 = .ok (.getfield 10, 3) := by decide +kernel
theorem dX5_run_130 : decode cX5_run 130 = .ok (.invokevirtual 304, 3) := by decide +kernel
theorem dX5_run_133 : decode cX5_run 133 = .ok (.aload_n 0, 1) := by decide +kernel
theorem dX5_run_134 : decode cX5_run 134 = .ok (.iload_n 2, 1) := by decide +kernel
theorem dX5_run_135 : decode cX5_run 135 = .ok (.putfield 48, 3) := by decide +kernel
theorem dX5_run_138 : decode cX5_run 138 = .ok (.aload_n 0, 1) := by decide +kernel
theorem dX5_run_139 : decode cX5_run 139 = .ok (.iload 6, 2) := by decide +kernel
theorem dX5_run_141 : decode cX5_run 141 = .ok (.putfield 51, 3) := by decide +kernel
theorem dX5_run_144 : decode cX5_run 144 = .ok (.new 65, 3) := by decide +kernel
theorem dX5_run_147 : decode cX5_run 147 = .ok (.dup, 1) := by decide +kernel
theorem dX5_run_148 : decode cX5_run 148 = .ok (.ldc_w 307, 3) := by decide +kernel
theorem dX5_run_151 : decode cX5_run 151 = .ok (.invokespecial 69, 3) := by decide +kernel
theorem dX5_run_154 : decode cX5_run 154 = .ok (.athrow, 1) := by decide +kernel
theorem dX5_run_155 : decode cX5_run 155 = .ok (.aload_n 3, 1) := by decide +kernel
theorem dX5_run_156 : decode cX5_run 156 = .ok (.aload_n 0, 1) := by decide +kernel
theorem dX5_run_157 : decode cX5_run 157 = .ok (.getfield 10, 3) := by decide +kernel
theorem dX5_run_160 : decode cX5_run 160 = .ok (.iload 4, 2) := by decide +kernel
theorem dX5_run_162 : decode cX5_run 162 = .ok (.iload 5, 2) := by decide +kernel
theorem dX5_run_164 : decode cX5_run 164 = .ok (.invokevirtual 309, 3) := by decide +kernel
theorem dX5_run_167 : decode cX5_run 167 = .ok (.iinc 2 1, 3) := by decide +kernel
theorem dX5_run_170 : decode cX5_run 170 = .ok (.goto (-116), 3) := by decide +kernel
theorem dX5_run_173 : decode cX5_run 173 = .ok (.aload_n 0, 1) := by decide +kernel
theorem dX5_run_174 : decode cX5_run 174 = .ok (.getfield 22, 3) := by decide +kernel
theorem dX5_run_177 : decode cX5_run 177 = .ok (.invokevirtual 313, 3) := by decide +kernel
theorem dX5_run_180 : decode cX5_run 180 = .ok (.aload_n 0, 1) := by decide +kernel
theorem dX5_run_181 : decode cX5_run 181 = .ok (.getfield 29, 3) := by decide +kernel
theorem dX5_run_184 : decode cX5_run 184 = .ok (.getfield 285, 3) := by decide +kernel
theorem dX5_run_187 : decode cX5_run 187 = .ok (.ireturn, 1) := by decide +kernel
theorem dX5_errorPosition_0 : decode cX5_errorPosition 0 = .ok (.aload_n 0, 1) := by decide +kernel
theorem dX5_errorPosition_1 : decode cX5_errorPosition 1 = .ok (.getfield 45, 3) := by decide +kernel
theorem dX5_errorPosition_4 : decode cX5_errorPosition 4 = .ok (.iconst (-1), 1) := by decide +kernel
theorem dX5_errorPosition_5 : decode cX5_errorPosition 5 = .ok (.if_icmp .ne 14, 3) := by decide +kernel
theorem dX5_errorPosition_8 : decode cX5_errorPosition 8 = .ok (.new 170, 3) := by decide +kernel
theorem dX5_errorPosition_11 : decode cX5_errorPosition 11 = .ok (.dup, 1) := by decide +kernel
theorem dX5_errorPosition_12 : decode cX5_errorPosition 12 = .ok (.ldc_w 316, 3) := by decide +kernel
theorem dX5_errorPosition_15 : decode cX5_errorPosition 15 = .ok (.invokespecial 174, 3) := by decide +kernel
theorem dX5_errorPosition_18 : decode cX5_errorPosition 18 = .ok (.athrow, 1) := by decide +kernel
theorem dX5_errorPosition_19 : decode cX5_errorPosition 19 = .ok (.aload_n 0, 1) := by decide +kernel
theorem dX5_errorPosition_20 : decode cX5_errorPosition 20 = .ok (.getfield 45, 3) := by decide +kernel
theorem dX5_errorPosition_23 : decode cX5_errorPosition 23 = .ok (.ireturn, 1) := by decide +kernel
theorem dX5_failedCommand_0 : decode cX5_failedCommand 0 = .ok (.aload_n 0, 1) := by decide +kernel
theorem dX5_failedCommand_1 : decode cX5_failedCommand 1 = .ok (.getfield 48, 3) := by decide +kernel
theorem dX5_failedCommand_4 : decode cX5_failedCommand 4 = .ok (.iconst (-1), 1) := by decide +kernel
theorem dX5_failedCommand_5 : decode cX5_failedCommand 5 = .ok (.if_icmp .ne 14, 3) := by decide +kernel
theorem dX5_failedCommand_8 : decode cX5_failedCommand 8 = .ok (.new 170, 3) := by decide +kernel
theorem dX5_failedCommand_11 : decode cX5_failedCommand 11 = .ok (.dup, 1) := by decide +kernel
theorem dX5_failedCommand_12 : decode cX5_failedCommand 12 = .ok (.ldc_w 318, 3) := by decide +kernel
theorem dX5_failedCommand_15 : decode cX5_failedCommand 15 = .ok (.invokespecial 174, 3) := by decide +kernel
theorem dX5_failedCommand_18 : decode cX5_failedCommand 18 = .ok (.athrow, 1) := by decide +kernel
theorem dX5_failedCommand_19 : decode cX5_failedCommand 19 = .ok (.aload_n 0, 1) := by decide +kernel
theorem dX5_failedCommand_20 : decode cX5_failedCommand 20 = .ok (.getfield 48, 3) := by decide +kernel
theorem dX5_failedCommand_23 : decode cX5_failedCommand 23 = .ok (.ireturn, 1) := by decide +kernel
theorem dX5_failedException_0 : decode cX5_failedException 0 = .ok (.aload_n 0, 1) := by decide +kernel
theorem dX5_failedException_1 : decode cX5_failedException 1 = .ok (.getfield 51, 3) := by decide +kernel
theorem dX5_failedException_4 : decode cX5_failedException 4 = .ok (.iconst (-1), 1) := by decide +kernel
theorem dX5_failedException_5 : decode cX5_failedException 5 = .ok (.if_icmp .ne 14, 3) := by decide +kernel
theorem dX5_failedException_8 : decode cX5_failedException 8 = .ok (.new 170, 3) := by decide +kernel
theorem dX5_failedException_11 : decode cX5_failedException 11 = .ok (.dup, 1) := by decide +kernel
theorem dX5_failedException_12 : decode cX5_failedException 12 = .ok (.ldc_w 318, 3) := by decide +kernel
theorem dX5_failedException_15 : decode cX5_failedException 15 = .ok (.invokespecial 174, 3) := by decide +kernel
theorem dX5_failedException_18 : decode cX5_failedException 18 = .ok (.athrow, 1) := by decide +kernel
theorem dX5_failedException_19 : decode cX5_failedException 19 = .ok (.aload_n 0, 1) := by decide +kernel
theorem dX5_failedException_20 : decode cX5_failedException 20 = .ok (.getfield 51, 3) := by decide +kernel
theorem dX5_failedException_23 : decode cX5_failedException 23 = .ok (.ireturn, 1) := by decide +kernel
set_option maxRecDepth 20000 in
theorem ggX5_describeRow_X5_requireRow : GoodIn wsX5_describeRow wsX5_requireRow := goodIn_ca (goodIn_r _ [7, 8, 9] (by decide +kernel) (by decide +kernel)) (goodIn_sub (fun _ h => List.mem_cons_of_mem _ (List.mem_append_right _ h)) (by decide +kernel))
set_option maxRecDepth 20000 in
theorem gX5_describeRow_X5_requireRow : GoodIn wsX5_describeRow (va_wsS RX5 233 yX5_requireRow wsX5_requireRow) := goodIn_app (goodIn_of _ (by decide +kernel)) ggX5_describeRow_X5_requireRow
set_option maxRecDepth 20000 in
theorem ggX5_describeRow_X3_signOf : GoodIn wsX5_describeRow wsX3_signOf := goodIn_ca (goodIn_r _ [14, 15, 16, 17, 18, 13, 19, 20, 31, 32, 33, 34, 35, 36, 37, 38, 39, 40, 41, 42, 43, 44, 45] (by decide +kernel) (by decide +kernel)) (goodIn_sub (fun _ h => List.mem_cons_of_mem _ (List.mem_append_left _ (List.mem_append_right _ h))) (by decide +kernel))
set_option maxRecDepth 20000 in
theorem gX5_describeRow_X3_signOf : GoodIn wsX5_describeRow (wsV RX5 320 RX3 yX3_signOf wsX3_signOf) := goodIn_app (goodIn_of _ (by decide +kernel)) ggX5_describeRow_X3_signOf
theorem dX5_describeRow_0 : decode cX5_describeRow 0 = .ok (.iload_n 1, 1) := by decide +kernel
theorem dX5_describeRow_1 : decode cX5_describeRow 1 = .ok (.invokestatic 233, 3) := by decide +kernel
theorem dX5_describeRow_4 : decode cX5_describeRow 4 = .ok (.iconst 0, 1) := by decide +kernel
theorem dX5_describeRow_5 : decode cX5_describeRow 5 = .ok (.istore_n 2, 1) := by decide +kernel
theorem dX5_describeRow_6 : decode cX5_describeRow 6 = .ok (.iload_n 2, 1) := by decide +kernel
theorem dX5_describeRow_7 : decode cX5_describeRow 7 = .ok (.bipush 10, 2) := by decide +kernel
theorem dX5_describeRow_9 : decode cX5_describeRow 9 = .ok (.if_icmp .ge 28, 3) := by decide +kernel
theorem dX5_describeRow_12 : decode cX5_describeRow 12 = .ok (.aload_n 0, 1) := by decide +kernel
theorem dX5_describeRow_13 : decode cX5_describeRow 13 = .ok (.getfield 33, 3) := by decide +kernel
theorem dX5_describeRow_16 : decode cX5_describeRow 16 = .ok (.iload_n 2, 1) := by decide +kernel
theorem dX5_describeRow_17 : decode cX5_describeRow 17 = .ok (.aload_n 0, 1) := by decide +kernel
theorem dX5_describeRow_18 : decode cX5_describeRow 18 = .ok (.getfield 10, 3) := by decide +kernel
theorem dX5_describeRow_21 : decode cX5_describeRow 21 = .ok (.iload_n 1, 1) := by decide +kernel
theorem dX5_describeRow_22 : decode cX5_describeRow 22 = .ok (.bipush 10, 2) := by decide +kernel
theorem dX5_describeRow_24 : decode cX5_describeRow 24 = .ok (.imul, 1) := by decide +kernel
theorem dX5_describeRow_25 : decode cX5_describeRow 25 = .ok (.iload_n 2, 1) := by decide +kernel
theorem dX5_describeRow_26 : decode cX5_describeRow 26 = .ok (.iadd, 1) := by decide +kernel
theorem dX5_describeRow_27 : decode cX5_describeRow 27 = .ok (.invokevirtual 320, 3) := by decide +kernel
theorem dX5_describeRow_30 : decode cX5_describeRow 30 = .ok (.castore, 1) := by decide +kernel
theorem dX5_describeRow_31 : decode cX5_describeRow 31 = .ok (.iinc 2 1, 3) := by decide +kernel
theorem dX5_describeRow_34 : decode cX5_describeRow 34 = .ok (.goto (-28), 3) := by decide +kernel
theorem dX5_describeRow_37 : decode cX5_describeRow 37 = .ok (.aload_n 0, 1) := by decide +kernel
theorem dX5_describeRow_38 : decode cX5_describeRow 38 = .ok (.bipush 10, 2) := by decide +kernel
theorem dX5_describeRow_40 : decode cX5_describeRow 40 = .ok (.putfield 37, 3) := by decide +kernel
theorem dX5_describeRow_43 : decode cX5_describeRow 43 = .ok (.aload_n 0, 1) := by decide +kernel
theorem dX5_describeRow_44 : decode cX5_describeRow 44 = .ok (.getfield 37, 3) := by decide +kernel
theorem dX5_describeRow_47 : decode cX5_describeRow 47 = .ok (.ireturn, 1) := by decide +kernel
theorem dX5_lineAt_0 : decode cX5_lineAt 0 = .ok (.iload_n 1, 1) := by decide +kernel
theorem dX5_lineAt_1 : decode cX5_lineAt 1 = .ok (.ifCond .lt 11, 3) := by decide +kernel
theorem dX5_lineAt_4 : decode cX5_lineAt 4 = .ok (.iload_n 1, 1) := by decide +kernel
theorem dX5_lineAt_5 : decode cX5_lineAt 5 = .ok (.aload_n 0, 1) := by decide +kernel
theorem dX5_lineAt_6 : decode cX5_lineAt 6 = .ok (.getfield 37, 3) := by decide +kernel
theorem dX5_lineAt_9 : decode cX5_lineAt 9 = .ok (.if_icmp .lt 14, 3) := by decide +kernel
theorem dX5_lineAt_12 : decode cX5_lineAt 12 = .ok (.new 81, 3) := by decide +kernel
theorem dX5_lineAt_15 : decode cX5_lineAt 15 = .ok (.dup, 1) := by decide +kernel
theorem dX5_lineAt_16 : decode cX5_lineAt 16 = .ok (.ldc_w 324, 3) := by decide +kernel
theorem dX5_lineAt_19 : decode cX5_lineAt 19 = .ok (.invokespecial 85, 3) := by decide +kernel
theorem dX5_lineAt_22 : decode cX5_lineAt 22 = .ok (.athrow, 1) := by decide +kernel
theorem dX5_lineAt_23 : decode cX5_lineAt 23 = .ok (.aload_n 0, 1) := by decide +kernel
theorem dX5_lineAt_24 : decode cX5_lineAt 24 = .ok (.getfield 33, 3) := by decide +kernel
theorem dX5_lineAt_27 : decode cX5_lineAt 27 = .ok (.iload_n 1, 1) := by decide +kernel
theorem dX5_lineAt_28 : decode cX5_lineAt 28 = .ok (.caload, 1) := by decide +kernel
theorem dX5_lineAt_29 : decode cX5_lineAt 29 = .ok (.ireturn, 1) := by decide +kernel
set_option maxRecDepth 20000 in
theorem ggX5_meanCover_X3_countPlaced : GoodIn wsX5_meanCover wsX3_countPlaced := goodIn_ca (goodIn_r _ [8, 9, 10, 11, 7, 12, 13, 33, 34, 35, 36, 37, 38, 39, 40, 41, 42, 43, 44, 45, 46, 47] (by decide +kernel) (by decide +kernel)) (goodIn_sub (fun _ h => List.mem_cons_of_mem _ (List.mem_append_right _ h)) (by decide +kernel))
set_option maxRecDepth 20000 in
theorem gX5_meanCover_X3_countPlaced : GoodIn wsX5_meanCover (wsV RX5 326 RX3 yX3_countPlaced wsX3_countPlaced) := goodIn_app (goodIn_of _ (by decide +kernel)) ggX5_meanCover_X3_countPlaced
set_option maxRecDepth 20000 in
theorem ggX5_meanCover_X3_countByChair : GoodIn wsX5_meanCover wsX3_countByChair := goodIn_ca (goodIn_r _ [17, 18, 19, 20, 7, 21, 22, 33, 34, 35, 36, 37, 38, 39, 40, 41, 42, 43, 44, 45, 46, 47] (by decide +kernel) (by decide +kernel)) (goodIn_sub (fun _ h => List.mem_cons_of_mem _ (List.mem_append_right _ h)) (by decide +kernel))
set_option maxRecDepth 20000 in
theorem gX5_meanCover_X3_countByChair : GoodIn wsX5_meanCover (wsV RX5 227 RX3 yX3_countByChair wsX3_countByChair) := goodIn_app (goodIn_of _ (by decide +kernel)) ggX5_meanCover_X3_countByChair
theorem dX5_meanCover_0 : decode cX5_meanCover 0 = .ok (.aload_n 0, 1) := by decide +kernel
theorem dX5_meanCover_1 : decode cX5_meanCover 1 = .ok (.getfield 10, 3) := by decide +kernel
theorem dX5_meanCover_4 : decode cX5_meanCover 4 = .ok (.invokevirtual 326, 3) := by decide +kernel
theorem dX5_meanCover_7 : decode cX5_meanCover 7 = .ok (.istore_n 1, 1) := by decide +kernel
theorem dX5_meanCover_8 : decode cX5_meanCover 8 = .ok (.iload_n 1, 1) := by decide +kernel
theorem dX5_meanCover_9 : decode cX5_meanCover 9 = .ok (.ifCond .ne 13, 3) := by decide +kernel
theorem dX5_meanCover_12 : decode cX5_meanCover 12 = .ok (.new 329, 3) := by decide +kernel
theorem dX5_meanCover_15 : decode cX5_meanCover 15 = .ok (.dup, 1) := by decide +kernel
theorem dX5_meanCover_16 : decode cX5_meanCover 16 = .ok (.ldc 221, 2) := by decide +kernel
theorem dX5_meanCover_18 : decode cX5_meanCover 18 = .ok (.invokespecial 331, 3) := by decide +kernel
theorem dX5_meanCover_21 : decode cX5_meanCover 21 = .ok (.athrow, 1) := by decide +kernel
theorem dX5_meanCover_22 : decode cX5_meanCover 22 = .ok (.aload_n 0, 1) := by decide +kernel
theorem dX5_meanCover_23 : decode cX5_meanCover 23 = .ok (.getfield 10, 3) := by decide +kernel
theorem dX5_meanCover_26 : decode cX5_meanCover 26 = .ok (.invokevirtual 227, 3) := by decide +kernel
theorem dX5_meanCover_29 : decode cX5_meanCover 29 = .ok (.i2d, 1) := by decide +kernel
theorem dX5_meanCover_30 : decode cX5_meanCover 30 = .ok (.iload_n 1, 1) := by decide +kernel
theorem dX5_meanCover_31 : decode cX5_meanCover 31 = .ok (.i2d, 1) := by decide +kernel
theorem dX5_meanCover_32 : decode cX5_meanCover 32 = .ok (.ddiv, 1) := by decide +kernel
theorem dX5_meanCover_33 : decode cX5_meanCover 33 = .ok (.dreturn, 1) := by decide +kernel
set_option maxRecDepth 20000 in
theorem ggX5_coveredShare_X3_countByChair : GoodIn wsX5_coveredShare wsX3_countByChair := goodIn_ca (goodIn_r _ [7, 8, 9, 10, 6, 11, 12, 23, 24, 25, 26, 27, 28, 29, 30, 31, 32, 33, 34, 35, 36, 37] (by decide +kernel) (by decide +kernel)) (goodIn_sub (fun _ h => List.mem_cons_of_mem _ (List.mem_append_right _ h)) (by decide +kernel))
set_option maxRecDepth 20000 in
theorem gX5_coveredShare_X3_countByChair : GoodIn wsX5_coveredShare (wsV RX5 227 RX3 yX3_countByChair wsX3_countByChair) := goodIn_app (goodIn_of _ (by decide +kernel)) ggX5_coveredShare_X3_countByChair
theorem dX5_coveredShare_0 : decode cX5_coveredShare 0 = .ok (.aload_n 0, 1) := by decide +kernel
theorem dX5_coveredShare_1 : decode cX5_coveredShare 1 = .ok (.getfield 10, 3) := by decide +kernel
theorem dX5_coveredShare_4 : decode cX5_coveredShare 4 = .ok (.invokevirtual 227, 3) := by decide +kernel
theorem dX5_coveredShare_7 : decode cX5_coveredShare 7 = .ok (.i2f, 1) := by decide +kernel
theorem dX5_coveredShare_8 : decode cX5_coveredShare 8 = .ok (.ldc_w 332, 3) := by decide +kernel
theorem dX5_coveredShare_11 : decode cX5_coveredShare 11 = .ok (.fdiv, 1) := by decide +kernel
theorem dX5_coveredShare_12 : decode cX5_coveredShare 12 = .ok (.freturn, 1) := by decide +kernel
set_option maxRecDepth 20000 in
theorem ggX5_undo_X4_stepBack : GoodIn wsX5_undo wsX4_stepBack := goodIn_r _ [10, 11, 12, 13, 14, 15, 16, 17, 18, 19, 20, 21, 22, 23, 24, 25, 26, 27, 28, 29, 30, 31, 32, 33, 34, 35, 36, 37, 48, 49, 50, 51, 52, 53, 54, 55, 56, 57, 58, 59, 60, 61, 62, 63, 64, 65] (by decide +kernel) (by decide +kernel)
set_option maxRecDepth 20000 in
theorem gX5_undo_X4_stepBack : GoodIn wsX5_undo (wsV RX5 344 RX4 yX4_stepBack wsX4_stepBack) := goodIn_app (goodIn_of _ (by decide +kernel)) ggX5_undo_X4_stepBack
theorem dX5_undo_0 : decode cX5_undo 0 = .ok (.aload_n 0, 1) := by decide +kernel
theorem dX5_undo_1 : decode cX5_undo 1 = .ok (.getfield 22, 3) := by decide +kernel
theorem dX5_undo_4 : decode cX5_undo 4 = .ok (.getfield 339, 3) := by decide +kernel
theorem dX5_undo_7 : decode cX5_undo 7 = .ok (.ifCond .ne 14, 3) := by decide +kernel
theorem dX5_undo_10 : decode cX5_undo 10 = .ok (.new 65, 3) := by decide +kernel
theorem dX5_undo_13 : decode cX5_undo 13 = .ok (.dup, 1) := by decide +kernel
theorem dX5_undo_14 : decode cX5_undo 14 = .ok (.ldc_w 342, 3) := by decide +kernel
theorem dX5_undo_17 : decode cX5_undo 17 = .ok (.invokespecial 69, 3) := by decide +kernel
theorem dX5_undo_20 : decode cX5_undo 20 = .ok (.athrow, 1) := by decide +kernel
theorem dX5_undo_21 : decode cX5_undo 21 = .ok (.aload_n 0, 1) := by decide +kernel
theorem dX5_undo_22 : decode cX5_undo 22 = .ok (.getfield 22, 3) := by decide +kernel
theorem dX5_undo_25 : decode cX5_undo 25 = .ok (.aload_n 0, 1) := by decide +kernel
theorem dX5_undo_26 : decode cX5_undo 26 = .ok (.getfield 10, 3) := by decide +kernel
theorem dX5_undo_29 : decode cX5_undo 29 = .ok (.invokevirtual 344, 3) := by decide +kernel
theorem dX5_undo_32 : decode cX5_undo 32 = .ok (.ireturn, 1) := by decide +kernel
set_option maxRecDepth 20000 in
theorem ggX5_save_X3_become : GoodIn wsX5_save wsX3_become := goodIn_r _ [8, 9, 10, 11, 12, 13, 14, 15, 16, 17, 18, 19, 20, 21, 22, 23, 24, 25, 26, 27, 46, 47, 48, 49, 50, 51, 52, 53, 54, 55, 56, 57, 58, 59, 60] (by decide +kernel) (by decide +kernel)
set_option maxRecDepth 20000 in
theorem gX5_save_X3_become : GoodIn wsX5_save (wsV RX5 348 RX3 yX3_become wsX3_become) := goodIn_app (goodIn_of _ (by decide +kernel)) ggX5_save_X3_become
set_option maxRecDepth 20000 in
theorem ggX5_save_X3_countPlaced : GoodIn wsX5_save wsX3_countPlaced := goodIn_ca (goodIn_r _ [31, 32, 33, 34, 7, 35, 15, 46, 47, 48, 49, 50, 51, 52, 53, 54, 55, 56, 57, 58, 59, 60] (by decide +kernel) (by decide +kernel)) (goodIn_sub (fun _ h => List.mem_cons_of_mem _ (List.mem_append_right _ h)) (by decide +kernel))
set_option maxRecDepth 20000 in
theorem gX5_save_X3_countPlaced : GoodIn wsX5_save (wsV RX5 326 RX3 yX3_countPlaced wsX3_countPlaced) := goodIn_app (goodIn_of _ (by decide +kernel)) ggX5_save_X3_countPlaced
theorem dX5_save_0 : decode cX5_save 0 = .ok (.aload_n 0, 1) := by decide +kernel
theorem dX5_save_1 : decode cX5_save 1 = .ok (.getfield 16, 3) := by decide +kernel
theorem dX5_save_4 : decode cX5_save 4 = .ok (.aload_n 0, 1) := by decide +kernel
theorem dX5_save_5 : decode cX5_save 5 = .ok (.getfield 10, 3) := by decide +kernel
theorem dX5_save_8 : decode cX5_save 8 = .ok (.invokevirtual 348, 3) := by decide +kernel
theorem dX5_save_11 : decode cX5_save 11 = .ok (.aload_n 0, 1) := by decide +kernel
theorem dX5_save_12 : decode cX5_save 12 = .ok (.iconst 1, 1) := by decide +kernel
theorem dX5_save_13 : decode cX5_save 13 = .ok (.putfield 41, 3) := by decide +kernel
theorem dX5_save_16 : decode cX5_save 16 = .ok (.aload_n 0, 1) := by decide +kernel
theorem dX5_save_17 : decode cX5_save 17 = .ok (.getfield 10, 3) := by decide +kernel
theorem dX5_save_20 : decode cX5_save 20 = .ok (.invokevirtual 326, 3) := by decide +kernel
theorem dX5_save_23 : decode cX5_save 23 = .ok (.ireturn, 1) := by decide +kernel
set_option maxRecDepth 20000 in
theorem ggX5_restore_X3_become : GoodIn wsX5_restore wsX3_become := goodIn_r _ [11, 12, 13, 14, 15, 16, 17, 18, 19, 20, 21, 22, 23, 24, 25, 26, 27, 28, 29, 30, 55, 56, 57, 58, 59, 60, 61, 62, 63, 64, 65, 66, 67, 68, 69] (by decide +kernel) (by decide +kernel)
set_option maxRecDepth 20000 in
theorem gX5_restore_X3_become : GoodIn wsX5_restore (wsV RX5 348 RX3 yX3_become wsX3_become) := goodIn_app (goodIn_of _ (by decide +kernel)) ggX5_restore_X3_become
set_option maxRecDepth 20000 in
theorem ggX5_restore_X4_forget : GoodIn wsX5_restore wsX4_forget := goodIn_r _ [35, 36, 70, 71, 72] (by decide +kernel) (by decide +kernel)
set_option maxRecDepth 20000 in
theorem gX5_restore_X4_forget : GoodIn wsX5_restore (wsV RX5 353 RX4 yX4_forget wsX4_forget) := goodIn_app (goodIn_of _ (by decide +kernel)) ggX5_restore_X4_forget
set_option maxRecDepth 20000 in
theorem ggX5_restore_X3_countPlaced : GoodIn wsX5_restore wsX3_countPlaced := goodIn_ca (goodIn_r _ [40, 41, 42, 43, 10, 44, 18, 55, 56, 57, 58, 59, 60, 61, 62, 63, 64, 65, 66, 67, 68, 69] (by decide +kernel) (by decide +kernel)) (goodIn_sub (fun _ h => List.mem_cons_of_mem _ (List.mem_append_right _ h)) (by decide +kernel))
set_option maxRecDepth 20000 in
theorem gX5_restore_X3_countPlaced : GoodIn wsX5_restore (wsV RX5 326 RX3 yX3_countPlaced wsX3_countPlaced) := goodIn_app (goodIn_of _ (by decide +kernel)) ggX5_restore_X3_countPlaced
theorem dX5_restore_0 : decode cX5_restore 0 = .ok (.aload_n 0, 1) := by decide +kernel
theorem dX5_restore_1 : decode cX5_restore 1 = .ok (.getfield 41, 3) := by decide +kernel
theorem dX5_restore_4 : decode cX5_restore 4 = .ok (.ifCond .ne 14, 3) := by decide +kernel
theorem dX5_restore_7 : decode cX5_restore 7 = .ok (.new 65, 3) := by decide +kernel
theorem dX5_restore_10 : decode cX5_restore 10 = .ok (.dup, 1) := by decide +kernel
theorem dX5_restore_11 : decode cX5_restore 11 = .ok (.ldc_w 351, 3) := by decide +kernel
theorem dX5_restore_14 : decode cX5_restore 14 = .ok (.invokespecial 69, 3) := by decide +kernel
theorem dX5_restore_17 : decode cX5_restore 17 = .ok (.athrow, 1) := by decide +kernel
theorem dX5_restore_18 : decode cX5_restore 18 = .ok (.aload_n 0, 1) := by decide +kernel
theorem dX5_restore_19 : decode cX5_restore 19 = .ok (.getfield 10, 3) := by decide +kernel
theorem dX5_restore_22 : decode cX5_restore 22 = .ok (.aload_n 0, 1) := by decide +kernel
theorem dX5_restore_23 : decode cX5_restore 23 = .ok (.getfield 16, 3) := by decide +kernel
theorem dX5_restore_26 : decode cX5_restore 26 = .ok (.invokevirtual 348, 3) := by decide +kernel
theorem dX5_restore_29 : decode cX5_restore 29 = .ok (.aload_n 0, 1) := by decide +kernel
theorem dX5_restore_30 : decode cX5_restore 30 = .ok (.getfield 22, 3) := by decide +kernel
theorem dX5_restore_33 : decode cX5_restore 33 = .ok (.invokevirtual 353, 3) := by decide +kernel
theorem dX5_restore_36 : decode cX5_restore 36 = .ok (.aload_n 0, 1) := by decide +kernel
theorem dX5_restore_37 : decode cX5_restore 37 = .ok (.getfield 10, 3) := by decide +kernel
theorem dX5_restore_40 : decode cX5_restore 40 = .ok (.invokevirtual 326, 3) := by decide +kernel
theorem dX5_restore_43 : decode cX5_restore 43 = .ok (.ireturn, 1) := by decide +kernel
set_option maxRecDepth 20000 in
theorem ggX5_requireGuest_X3_hasGuest : GoodIn wsX5_requireGuest wsX3_hasGuest := goodIn_r _ [8, 9, 20, 21, 22, 23, 24, 25, 26, 27, 28, 29, 30, 31, 32, 33, 34] (by decide +kernel) (by decide +kernel)
set_option maxRecDepth 20000 in
theorem gX5_requireGuest_X3_hasGuest : GoodIn wsX5_requireGuest (wsV RX5 356 RX3 yX3_hasGuest wsX3_hasGuest) := goodIn_app (goodIn_of _ (by decide +kernel)) ggX5_requireGuest_X3_hasGuest
theorem dX5_requireGuest_0 : decode cX5_requireGuest 0 = .ok (.aload_n 0, 1) := by decide +kernel
theorem dX5_requireGuest_1 : decode cX5_requireGuest 1 = .ok (.getfield 10, 3) := by decide +kernel
theorem dX5_requireGuest_4 : decode cX5_requireGuest 4 = .ok (.iload_n 1, 1) := by decide +kernel
theorem dX5_requireGuest_5 : decode cX5_requireGuest 5 = .ok (.invokevirtual 356, 3) := by decide +kernel
theorem dX5_requireGuest_8 : decode cX5_requireGuest 8 = .ok (.ifCond .ne 13, 3) := by decide +kernel
theorem dX5_requireGuest_11 : decode cX5_requireGuest 11 = .ok (.new 81, 3) := by decide +kernel
theorem dX5_requireGuest_14 : decode cX5_requireGuest 14 = .ok (.dup, 1) := by decide +kernel
theorem dX5_requireGuest_15 : decode cX5_requireGuest 15 = .ok (.ldc 83, 2) := by decide +kernel
theorem dX5_requireGuest_17 : decode cX5_requireGuest 17 = .ok (.invokespecial 85, 3) := by decide +kernel
theorem dX5_requireGuest_20 : decode cX5_requireGuest 20 = .ok (.athrow, 1) := by decide +kernel
theorem dX5_requireGuest_21 : decode cX5_requireGuest 21 = .ok (.return_, 1) := by decide +kernel
set_option maxRecDepth 20000 in
theorem ggX5_requirePlacedHat_X3_refusalWithoutHat : GoodIn wsX5_requirePlacedHat wsX3_refusalWithoutHat := goodIn_ca (goodIn_r _ [10, 11, 12, 13, 9, 14, 15, 16, 17, 18, 19, 20, 31, 32, 33, 34, 35, 36, 37, 38, 39, 40, 41, 42, 43, 44, 45] (by decide +kernel) (by decide +kernel)) (goodIn_sub (fun _ h => List.mem_cons_of_mem _ (List.mem_append_right _ h)) (by decide +kernel))
set_option maxRecDepth 20000 in
theorem gX5_requirePlacedHat_X3_refusalWithoutHat : GoodIn wsX5_requirePlacedHat (wsV RX5 359 RX3 yX3_refusalWithoutHat wsX3_refusalWithoutHat) := goodIn_app (goodIn_of _ (by decide +kernel)) ggX5_requirePlacedHat_X3_refusalWithoutHat
theorem dX5_requirePlacedHat_0 : decode cX5_requirePlacedHat 0 = .ok (.aload_n 0, 1) := by decide +kernel
theorem dX5_requirePlacedHat_1 : decode cX5_requirePlacedHat 1 = .ok (.getfield 10, 3) := by decide +kernel
theorem dX5_requirePlacedHat_4 : decode cX5_requirePlacedHat 4 = .ok (.iload_n 1, 1) := by decide +kernel
theorem dX5_requirePlacedHat_5 : decode cX5_requirePlacedHat 5 = .ok (.invokevirtual 359, 3) := by decide +kernel
theorem dX5_requirePlacedHat_8 : decode cX5_requirePlacedHat 8 = .ok (.istore_n 2, 1) := by decide +kernel
theorem dX5_requirePlacedHat_9 : decode cX5_requirePlacedHat 9 = .ok (.iload_n 2, 1) := by decide +kernel
theorem dX5_requirePlacedHat_10 : decode cX5_requirePlacedHat 10 = .ok (.iconst 1, 1) := by decide +kernel
theorem dX5_requirePlacedHat_11 : decode cX5_requirePlacedHat 11 = .ok (.if_icmp .ne 13, 3) := by decide +kernel
theorem dX5_requirePlacedHat_14 : decode cX5_requirePlacedHat 14 = .ok (.new 81, 3) := by decide +kernel
theorem dX5_requirePlacedHat_17 : decode cX5_requirePlacedHat 17 = .ok (.dup, 1) := by decide +kernel
theorem dX5_requirePlacedHat_18 : decode cX5_requirePlacedHat 18 = .ok (.ldc 83, 2) := by decide +kernel
theorem dX5_requirePlacedHat_20 : decode cX5_requirePlacedHat 20 = .ok (.invokespecial 85, 3) := by decide +kernel
theorem dX5_requirePlacedHat_23 : decode cX5_requirePlacedHat 23 = .ok (.athrow, 1) := by decide +kernel
theorem dX5_requirePlacedHat_24 : decode cX5_requirePlacedHat 24 = .ok (.iload_n 2, 1) := by decide +kernel
theorem dX5_requirePlacedHat_25 : decode cX5_requirePlacedHat 25 = .ok (.ifCond .eq 14, 3) := by decide +kernel
theorem dX5_requirePlacedHat_28 : decode cX5_requirePlacedHat 28 = .ok (.new 170, 3) := by decide +kernel
theorem dX5_requirePlacedHat_31 : decode cX5_requirePlacedHat 31 = .ok (.dup, 1) := by decide +kernel
theorem dX5_requirePlacedHat_32 : decode cX5_requirePlacedHat 32 = .ok (.ldc_w 362, 3) := by decide +kernel
theorem dX5_requirePlacedHat_35 : decode cX5_requirePlacedHat 35 = .ok (.invokespecial 174, 3) := by decide +kernel
theorem dX5_requirePlacedHat_38 : decode cX5_requirePlacedHat 38 = .ok (.athrow, 1) := by decide +kernel
theorem dX5_requirePlacedHat_39 : decode cX5_requirePlacedHat 39 = .ok (.return_, 1) := by decide +kernel
set_option maxRecDepth 20000 in
theorem ggX5_requireLeftCoat_X3_refusalWithoutCoat : GoodIn wsX5_requireLeftCoat wsX3_refusalWithoutCoat := goodIn_ca (goodIn_r _ [10, 11, 12, 13, 14, 9, 15, 16, 27, 28, 29, 30, 31, 32, 33, 34, 35, 36, 37, 38, 39, 40, 41] (by decide +kernel) (by decide +kernel)) (goodIn_sub (fun _ h => List.mem_cons_of_mem _ (List.mem_append_right _ h)) (by decide +kernel))
set_option maxRecDepth 20000 in
theorem gX5_requireLeftCoat_X3_refusalWithoutCoat : GoodIn wsX5_requireLeftCoat (wsV RX5 364 RX3 yX3_refusalWithoutCoat wsX3_refusalWithoutCoat) := goodIn_app (goodIn_of _ (by decide +kernel)) ggX5_requireLeftCoat_X3_refusalWithoutCoat
theorem dX5_requireLeftCoat_0 : decode cX5_requireLeftCoat 0 = .ok (.aload_n 0, 1) := by decide +kernel
theorem dX5_requireLeftCoat_1 : decode cX5_requireLeftCoat 1 = .ok (.getfield 10, 3) := by decide +kernel
theorem dX5_requireLeftCoat_4 : decode cX5_requireLeftCoat 4 = .ok (.iload_n 1, 1) := by decide +kernel
theorem dX5_requireLeftCoat_5 : decode cX5_requireLeftCoat 5 = .ok (.invokevirtual 364, 3) := by decide +kernel
theorem dX5_requireLeftCoat_8 : decode cX5_requireLeftCoat 8 = .ok (.istore_n 2, 1) := by decide +kernel
theorem dX5_requireLeftCoat_9 : decode cX5_requireLeftCoat 9 = .ok (.iload_n 2, 1) := by decide +kernel
theorem dX5_requireLeftCoat_10 : decode cX5_requireLeftCoat 10 = .ok (.iconst 1, 1) := by decide +kernel
theorem dX5_requireLeftCoat_11 : decode cX5_requireLeftCoat 11 = .ok (.if_icmp .ne 13, 3) := by decide +kernel
theorem dX5_requireLeftCoat_14 : decode cX5_requireLeftCoat 14 = .ok (.new 81, 3) := by decide +kernel
theorem dX5_requireLeftCoat_17 : decode cX5_requireLeftCoat 17 = .ok (.dup, 1) := by decide +kernel
theorem dX5_requireLeftCoat_18 : decode cX5_requireLeftCoat 18 = .ok (.ldc 83, 2) := by decide +kernel
theorem dX5_requireLeftCoat_20 : decode cX5_requireLeftCoat 20 = .ok (.invokespecial 85, 3) := by decide +kernel
theorem dX5_requireLeftCoat_23 : decode cX5_requireLeftCoat 23 = .ok (.athrow, 1) := by decide +kernel
theorem dX5_requireLeftCoat_24 : decode cX5_requireLeftCoat 24 = .ok (.iload_n 2, 1) := by decide +kernel
theorem dX5_requireLeftCoat_25 : decode cX5_requireLeftCoat 25 = .ok (.ifCond .eq 14, 3) := by decide +kernel
theorem dX5_requireLeftCoat_28 : decode cX5_requireLeftCoat 28 = .ok (.new 170, 3) := by decide +kernel
theorem dX5_requireLeftCoat_31 : decode cX5_requireLeftCoat 31 = .ok (.dup, 1) := by decide +kernel
theorem dX5_requireLeftCoat_32 : decode cX5_requireLeftCoat 32 = .ok (.ldc_w 367, 3) := by decide +kernel
theorem dX5_requireLeftCoat_35 : decode cX5_requireLeftCoat 35 = .ok (.invokespecial 174, 3) := by decide +kernel
theorem dX5_requireLeftCoat_38 : decode cX5_requireLeftCoat 38 = .ok (.athrow, 1) := by decide +kernel
theorem dX5_requireLeftCoat_39 : decode cX5_requireLeftCoat 39 = .ok (.return_, 1) := by decide +kernel
set_option maxRecDepth 20000 in
theorem ggX5_requireChair_X3_hasChair : GoodIn wsX5_requireChair wsX3_hasChair := goodIn_r _ [6] (by decide +kernel) (by decide +kernel)
set_option maxRecDepth 20000 in
theorem gX5_requireChair_X3_hasChair : GoodIn wsX5_requireChair (va_wsS RX5 369 yX3_hasChair wsX3_hasChair) := goodIn_app (goodIn_of _ (by decide +kernel)) ggX5_requireChair_X3_hasChair
theorem dX5_requireChair_0 : decode cX5_requireChair 0 = .ok (.iload_n 0, 1) := by decide +kernel
theorem dX5_requireChair_1 : decode cX5_requireChair 1 = .ok (.invokestatic 369, 3) := by decide +kernel
theorem dX5_requireChair_4 : decode cX5_requireChair 4 = .ok (.ifCond .ne 14, 3) := by decide +kernel
theorem dX5_requireChair_7 : decode cX5_requireChair 7 = .ok (.new 81, 3) := by decide +kernel
theorem dX5_requireChair_10 : decode cX5_requireChair 10 = .ok (.dup, 1) := by decide +kernel
theorem dX5_requireChair_11 : decode cX5_requireChair 11 = .ok (.ldc_w 372, 3) := by decide +kernel
theorem dX5_requireChair_14 : decode cX5_requireChair 14 = .ok (.invokespecial 85, 3) := by decide +kernel
theorem dX5_requireChair_17 : decode cX5_requireChair 17 = .ok (.athrow, 1) := by decide +kernel
theorem dX5_requireChair_18 : decode cX5_requireChair 18 = .ok (.return_, 1) := by decide +kernel
theorem dX5_requireRow_0 : decode cX5_requireRow 0 = .ok (.iload_n 0, 1) := by decide +kernel
theorem dX5_requireRow_1 : decode cX5_requireRow 1 = .ok (.ifCond .lt 8, 3) := by decide +kernel
theorem dX5_requireRow_4 : decode cX5_requireRow 4 = .ok (.iload_n 0, 1) := by decide +kernel
theorem dX5_requireRow_5 : decode cX5_requireRow 5 = .ok (.iconst 4, 1) := by decide +kernel
theorem dX5_requireRow_6 : decode cX5_requireRow 6 = .ok (.if_icmp .lt 14, 3) := by decide +kernel
theorem dX5_requireRow_9 : decode cX5_requireRow 9 = .ok (.new 81, 3) := by decide +kernel
theorem dX5_requireRow_12 : decode cX5_requireRow 12 = .ok (.dup, 1) := by decide +kernel
theorem dX5_requireRow_13 : decode cX5_requireRow 13 = .ok (.ldc_w 374, 3) := by decide +kernel
theorem dX5_requireRow_16 : decode cX5_requireRow 16 = .ok (.invokespecial 85, 3) := by decide +kernel
theorem dX5_requireRow_19 : decode cX5_requireRow 19 = .ok (.athrow, 1) := by decide +kernel
theorem dX5_requireRow_20 : decode cX5_requireRow 20 = .ok (.return_, 1) := by decide +kernel
end
section
/-! the state of a hall: eight rows, seven numbers -/
abbrev HS : Type := (Nat → Int32) × (Nat → Int32) × (Nat → Int32) × (Nat → Int32) × (Nat → Int64) × (Nat → Int32) × (Nat → Int32) × (Nat → Int32) × Int32 × Int32 × Int32 × Int32 × Int32 × Int32 × Int32
abbrev h0 (u : HS) : Nat → Int32 := u.1
abbrev h1 (u : HS) : Nat → Int32 := u.2.1
abbrev h2 (u : HS) : Nat → Int32 := u.2.2.1
abbrev h3 (u : HS) : Nat → Int32 := u.2.2.2.1
abbrev h4 (u : HS) : Nat → Int64 := u.2.2.2.2.1
abbrev h5 (u : HS) : Nat → Int32 := u.2.2.2.2.2.1
abbrev h6 (u : HS) : Nat → Int32 := u.2.2.2.2.2.2.1
abbrev h7 (u : HS) : Nat → Int32 := u.2.2.2.2.2.2.2.1
abbrev h8 (u : HS) : Int32 := u.2.2.2.2.2.2.2.2.1
abbrev h9 (u : HS) : Int32 := u.2.2.2.2.2.2.2.2.2.1
abbrev h10 (u : HS) : Int32 := u.2.2.2.2.2.2.2.2.2.2.1
abbrev h11 (u : HS) : Int32 := u.2.2.2.2.2.2.2.2.2.2.2.1
abbrev h12 (u : HS) : Int32 := u.2.2.2.2.2.2.2.2.2.2.2.2.1
abbrev h13 (u : HS) : Int32 := u.2.2.2.2.2.2.2.2.2.2.2.2.2.1
abbrev h14 (u : HS) : Int32 := u.2.2.2.2.2.2.2.2.2.2.2.2.2.2
abbrev s0 (x : Nat → Int32) (u : HS) : HS := (x, u.2)
abbrev s1 (x : Nat → Int32) (u : HS) : HS := (h0 u, x, u.2.2)
abbrev s2 (x : Nat → Int32) (u : HS) : HS := (h0 u, h1 u, x, u.2.2.2)
abbrev s3 (x : Nat → Int32) (u : HS) : HS := (h0 u, h1 u, h2 u, x, u.2.2.2.2)
abbrev s4 (x : Nat → Int64) (u : HS) : HS := (h0 u, h1 u, h2 u, h3 u, x, u.2.2.2.2.2)
abbrev s5 (x : Nat → Int32) (u : HS) : HS := (h0 u, h1 u, h2 u, h3 u, h4 u, x, u.2.2.2.2.2.2)
abbrev s6 (x : Nat → Int32) (u : HS) : HS := (h0 u, h1 u, h2 u, h3 u, h4 u, h5 u, x, u.2.2.2.2.2.2.2)
abbrev s7 (x : Nat → Int32) (u : HS) : HS := (h0 u, h1 u, h2 u, h3 u, h4 u, h5 u, h6 u, x, u.2.2.2.2.2.2.2.2)
abbrev s8 (x : Int32) (u : HS) : HS := (h0 u, h1 u, h2 u, h3 u, h4 u, h5 u, h6 u, h7 u, x, u.2.2.2.2.2.2.2.2.2)
abbrev s9 (x : Int32) (u : HS) : HS := (h0 u, h1 u, h2 u, h3 u, h4 u, h5 u, h6 u, h7 u, h8 u, x, u.2.2.2.2.2.2.2.2.2.2)
abbrev s10 (x : Int32) (u : HS) : HS := (h0 u, h1 u, h2 u, h3 u, h4 u, h5 u, h6 u, h7 u, h8 u, h9 u, x, u.2.2.2.2.2.2.2.2.2.2.2)
abbrev s11 (x : Int32) (u : HS) : HS := (h0 u, h1 u, h2 u, h3 u, h4 u, h5 u, h6 u, h7 u, h8 u, h9 u, h10 u, x, u.2.2.2.2.2.2.2.2.2.2.2.2)
abbrev s12 (x : Int32) (u : HS) : HS := (h0 u, h1 u, h2 u, h3 u, h4 u, h5 u, h6 u, h7 u, h8 u, h9 u, h10 u, h11 u, x, u.2.2.2.2.2.2.2.2.2.2.2.2.2)
abbrev s13 (x : Int32) (u : HS) : HS := (h0 u, h1 u, h2 u, h3 u, h4 u, h5 u, h6 u, h7 u, h8 u, h9 u, h10 u, h11 u, h12 u, x, u.2.2.2.2.2.2.2.2.2.2.2.2.2.2)
abbrev s14 (x : Int32) (u : HS) : HS := (h0 u, h1 u, h2 u, h3 u, h4 u, h5 u, h6 u, h7 u, h8 u, h9 u, h10 u, h11 u, h12 u, h13 u, x)
/-- the array classes -/
def TYS (ca : Nat → ClassId) : List (ClassId × FieldType) := [(ca 0, .int), (ca 1, .long), (ca 2, .char), (ca 3, .object "HatReservations$Hall"), (ca 4, .object "HatReservations$Command"), (ca 5, .byte)]
/-- the cells of a hall: the object at a 8, its rows at a 0 .. a 7 -/
def HW (ca : Nat → ClassId) (a : Nat → Nat) (u : HS) : va_W := [(a 8, .inr (4, [.ref (a 0), .ref (a 1), .ref (a 2), .ref (a 3), .ref (a 4), .ref (a 5), .ref (a 6), .ref (a 7), .int (h8 u), .int (h9 u), .int (h10 u), .int (h11 u), .int (h12 u), .int (h13 u), .int (h14 u)])), (a 0, .inl (ca 0, 8, .inl (h0 u))), (a 1, .inl (ca 0, 8, .inl (h1 u))), (a 2, .inl (ca 0, 8, .inl (h2 u))), (a 3, .inl (ca 0, 8, .inl (h3 u))), (a 4, .inl (ca 1, 8, .inr (.inl (h4 u)))), (a 5, .inl (ca 0, 8, .inl (h5 u))), (a 6, .inl (ca 0, 8, .inl (h6 u))), (a 7, .inl (ca 0, 8, .inl (h7 u)))]
/-! worlds as sets of cells -/
theorem P_iff {D : va_G} {cl : List vw_C} {ws : va_W} {H : Heap} : va_P D cl ws H ↔ ∀ q ∈ ws, va_at D cl q H :=
  ⟨fun h q hq => by obtain ⟨i, hi⟩ := List.getElem?_of_mem hq; exact h i q hi, fun h k q hk => h q (List.mem_of_getElem? hk)⟩
theorem D_iff {A : Nat → Prop} {ws : va_W} : va_D A ws ↔ (ws.map Prod.fst).Nodup ∧ ∀ q ∈ ws, A q.1 := by
  constructor
  · intro h
    refine ⟨?_, fun q hq => by obtain ⟨i, hi⟩ := List.getElem?_of_mem hq; exact h.2 i q hi⟩
    rw [List.Nodup, List.pairwise_iff_getElem]
    intro i j hi hj hij he
    rw [List.length_map] at hi hj
    rw [List.getElem_map, List.getElem_map] at he
    have := h.1 i j ws[i] ws[j] (List.getElem?_eq_getElem hi) (List.getElem?_eq_getElem hj) he
    omega
  · rintro ⟨h1, h2⟩
    refine ⟨fun i j p q hp hq he => ?_, fun k q hk => h2 q (List.mem_of_getElem? hk)⟩
    obtain ⟨hi, ei⟩ := List.getElem?_eq_some_iff.mp hp
    obtain ⟨hj, ej⟩ := List.getElem?_eq_some_iff.mp hq
    rw [List.Nodup, List.pairwise_iff_getElem] at h1
    rcases Nat.lt_trichotomy i j with h | h | h
    · exact absurd (by rw [List.getElem_map, List.getElem_map, ei, ej]; exact he) (h1 i j (by rw [List.length_map]; exact hi) (by rw [List.length_map]; exact hj) h)
    · exact h
    · exact absurd (by rw [List.getElem_map, List.getElem_map, ei, ej]; exact he.symm) (h1 j i (by rw [List.length_map]; exact hj) (by rw [List.length_map]; exact hi) h)
theorem P_perm {D : va_G} {cl : List vw_C} {w1 w2 : va_W} {H : Heap} (h : w1.Perm w2) (hP : va_P D cl w1 H) : va_P D cl w2 H :=
  P_iff.mpr fun q hq => P_iff.mp hP q (h.mem_iff.mpr hq)
theorem D_perm {A : Nat → Prop} {w1 w2 : va_W} (h : w1.Perm w2) (hD : va_D A w1) : va_D A w2 := by
  obtain ⟨h1, h2⟩ := D_iff.mp hD
  exact D_iff.mpr ⟨(h.map Prod.fst).nodup_iff.mp h1, fun q hq => h2 q (h.mem_iff.mpr hq)⟩
theorem P_left {D : va_G} {cl : List vw_C} {w1 w2 : va_W} {H : Heap} (h : va_P D cl (w1 ++ w2) H) : va_P D cl w1 H := P_iff.mpr fun q hq => P_iff.mp h q (List.mem_append_left _ hq)
theorem P_right {D : va_G} {cl : List vw_C} {w1 w2 : va_W} {H : Heap} (h : va_P D cl (w1 ++ w2) H) : va_P D cl w2 H := P_iff.mpr fun q hq => P_iff.mp h q (List.mem_append_right _ hq)
theorem D_left {A : Nat → Prop} {w1 w2 : va_W} (h : va_D A (w1 ++ w2)) : va_D A w1 := by
  obtain ⟨h1, h2⟩ := D_iff.mp h
  rw [List.map_append] at h1
  exact D_iff.mpr ⟨(List.nodup_append.mp h1).1, fun q hq => h2 q (List.mem_append_left _ hq)⟩
theorem D_right {A : Nat → Prop} {w1 w2 : va_W} (h : va_D A (w1 ++ w2)) : va_D A w2 := by
  obtain ⟨h1, h2⟩ := D_iff.mp h
  rw [List.map_append] at h1
  exact D_iff.mpr ⟨(List.nodup_append.mp h1).2.1, fun q hq => h2 q (List.mem_append_right _ hq)⟩
theorem A_iff {ws : va_W} {sz q : Nat} : va_A ws sz q ↔ (∃ c ∈ ws, c.1 = q) ∨ sz ≤ q := by
  constructor
  · rintro (⟨k, e, h⟩ | h)
    · exact Or.inl ⟨(q, e), List.mem_of_getElem? h, rfl⟩
    · exact Or.inr h
  · rintro (⟨c, h, rfl⟩ | h)
    · obtain ⟨i, hi⟩ := List.getElem?_of_mem h
      exact Or.inl ⟨i, c.2, hi⟩
    · exact Or.inr h
/-- behind a call: the rest beside what came back -/
theorem J_join {A0 : Nat → Prop} {D : va_G} {cl : List vw_C} {ws wc wr w1 : va_W} {H H1 : Heap} (hperm : ws.Perm (wr ++ wc)) (hP : va_P D cl ws H) (hD : va_D A0 ws)
    (hk : ∀ q : Nat, q < H.size → ¬ va_A wc H.size q → H1[q]? = H[q]?) (hF : ∀ q, va_A wc H.size q → A0 q) (hP1 : va_P D cl w1 H1) (hD1 : va_D (va_A wc H.size) w1) : va_P D cl (wr ++ w1) H1 ∧ va_D A0 (wr ++ w1) := by
  have hP' := P_perm hperm hP
  have hD' := D_perm hperm hD
  obtain ⟨n1, n2⟩ := D_iff.mp hD'
  rw [List.map_append] at n1
  have n3 := (List.nodup_append.mp n1).2.2
  have apart : ∀ q ∈ wr, q.1 < H.size ∧ ¬ va_A wc H.size q.1 := by
    intro q hq
    have hl := (P_iff.mp hP' q (List.mem_append_left _ hq)).lt
    refine ⟨hl, fun h => ?_⟩
    rcases A_iff.mp h with ⟨c, hc, e⟩ | h
    · exact n3 q.1 (List.mem_map.mpr ⟨q, hq, rfl⟩) c.1 (List.mem_map.mpr ⟨c, hc, rfl⟩) e.symm
    · omega
  obtain ⟨m1, m2⟩ := D_iff.mp hD1
  refine ⟨P_iff.mpr fun q hq => ?_, D_iff.mpr ⟨?_, fun q hq => ?_⟩⟩
  · rcases List.mem_append.mp hq with h | h
    · obtain ⟨g1, g2⟩ := apart q h
      exact (P_iff.mp hP' q (List.mem_append_left _ h)).kept (hk q.1 g1 g2)
    · exact P_iff.mp hP1 q h
  · rw [List.map_append]
    refine List.nodup_append.mpr ⟨(List.nodup_append.mp n1).1, m1, fun a ha b hb e => ?_⟩
    obtain ⟨q, hq, rfl⟩ := List.mem_map.mp ha
    obtain ⟨c, hc, rfl⟩ := List.mem_map.mp hb
    exact (apart q hq).2 (by rw [e]; exact m2 c hc)
  · rcases List.mem_append.mp hq with h | h
    · exact n2 q (List.mem_append_left _ h)
    · exact hF q.1 (m2 q h)
/-! contracts' starts and ends -/
def RPc (D : va_G) (ca : Nat → ClassId) (ws : va_W) (av : List Value) : Array Value → State → Prop := va_Pc av (fun U => va_P D vwCl ws U.heap ∧ va_K D vwCl (TYS ca) U)
def MPc (D : va_G) (ca : Nat → ClassId) (sz : Nat) (ws : va_W) (av : List Value) : Array Value → State → Prop := va_Pc av (fun U => U.heap.size = sz ∧ va_P D vwCl ws U.heap ∧ va_K D vwCl (TYS ca) U ∧ va_D (fun _ => True) ws)
def MB {S : Type} (D : va_G) (ca : Nat → ClassId) (A : Nat → Prop) (f : S → va_W) : S → State → Prop := fun u t => va_P D vwCl (f u) t.heap ∧ va_K D vwCl (TYS ca) t ∧ va_D A (f u)
theorem RPc_blind {D : va_G} {ca : Nat → ClassId} {ws : va_W} {av : List Value} : FrameBlind (RPc D ca ws av) := fun a U g mk q => by
  obtain ⟨q0, qP, qK⟩ := q
  exact ⟨q0, qP, va_K.moved (u := U) (U := U.calling g mk a) (Vm.Alike.refl U.vm) qK⟩
theorem MPc_blind {D : va_G} {ca : Nat → ClassId} {sz : Nat} {ws : va_W} {av : List Value} : FrameBlind (MPc D ca sz ws av) := fun a U g mk q => by
  obtain ⟨q0, q1, qP, qK, qD⟩ := q
  exact ⟨q0, q1, qP, va_K.moved (u := U) (U := U.calling g mk a) (Vm.Alike.refl U.vm) qK, qD⟩
section CALLS
variable {p : Program} {l : Launch} {e : Env} {R : Room} {s : State} {m : MethodId} {args : Array Value} {below : List Frame} {meth : Method} {c : Code} {H : Heap} {locs : List Loc} {cells slots : Nat} {Q : State → Prop}
variable {D : va_G} {ca : Nat → ClassId} {ws wc wr : va_W} {As rest st0 : List Value} {index n pc nL maxL mc ms b N : Nat} {y : MethodName} {bytes cc : ByteArray} {ret : Option FieldType} {wsy Ts : List Cond} {rm : Room} {own C : String} {T : u_T} {fs : List Value} {ls : Array Slot} {A0 : Nat → Prop} {H0 : Heap}
theorem P_recv (hK : va_K D vwCl (TYS ca) s) (hP : va_P D vwCl ws H) {ci : Nat} {q0 : Nat} (he : ws[q0]? = some (b, .inr (ci, fs))) (hc : vwCl[ci]? = some (C, T, N)) : ∃ cellB : Cell, H[b]? = some cellB ∧ cellB.vm.isStatics = false ∧ s.vm.findClass C = some cellB.cls := va_recv (q := (C, T, N)) hK hP hc he
/-- reading calls: the heap stays -/
theorem hcRi {v : Int32} (q0 ci : Nat) (S : CallFix p m c cc nL s args Ts own) (hM : Met l y wsy rm (RPc D ca wc (.ref b :: As)) (vp_Si (fun r => r = v)) 0 0 (fun _ => False)) (cw : CallW R s args own C index y bytes maxL ret wsy rm 0 0 n) (hK : va_K D vwCl (TYS ca) s) (hP : va_P D vwCl wc H) (he : wc[q0]? = some (b, .inr (ci, fs))) (hc : vwCl[ci]? = some (C, T, N)) (hn : As.length = n) (hsize : ls.size = nL) (hst : st0 = As.reverse ++ .ref b :: rest) (hW : (rest.map fun v => v.category).sum ≤ 8) (hf : cells ≤ R.cells ∧ slots ≤ R.slots) (hdg : decode cc pc = .ok (.invokevirtual index, 3))
    (kk : W p l e R s m args below meth c H locs cells slots Q (F0 m (pc + 3) ls (.int v :: rest))) : W p l e R s m args below meth c H locs cells slots Q (F0 m pc ls st0) :=
  vp_callSi (W.runV S hM cw ⟨RPc_blind, P_recv hK hP he hc, fun U hU hW => ⟨rfl, by rw [hU]; exact hP, va_K.moved hW.alike hK⟩⟩ rfl hn hsize hst (lv_room hW) hdg hf) (fun r h => by cases h; exact kk)
theorem hcRl {v : Int64} (q0 ci : Nat) (S : CallFix p m c cc nL s args Ts own) (hM : Met l y wsy rm (RPc D ca wc (.ref b :: As)) (vp_Sl (fun r => r = v)) 0 0 (fun _ => False)) (cw : CallW R s args own C index y bytes maxL ret wsy rm 0 0 n) (hK : va_K D vwCl (TYS ca) s) (hP : va_P D vwCl wc H) (he : wc[q0]? = some (b, .inr (ci, fs))) (hc : vwCl[ci]? = some (C, T, N)) (hn : As.length = n) (hsize : ls.size = nL) (hst : st0 = As.reverse ++ .ref b :: rest) (hW : (rest.map fun v => v.category).sum ≤ 8) (hf : cells ≤ R.cells ∧ slots ≤ R.slots) (hdg : decode cc pc = .ok (.invokevirtual index, 3))
    (kk : W p l e R s m args below meth c H locs cells slots Q (F0 m (pc + 3) ls (.long v :: rest))) : W p l e R s m args below meth c H locs cells slots Q (F0 m pc ls st0) :=
  vp_callSl (W.runV S hM cw ⟨RPc_blind, P_recv hK hP he hc, fun U hU hW => ⟨rfl, by rw [hU]; exact hP, va_K.moved hW.alike hK⟩⟩ rfl hn hsize hst (lv_room hW) hdg hf) (fun r h => by cases h; exact kk)
/-- static reading calls -/
theorem hcSi {v : Int32} (S : CallFix p m c cc nL s args Ts own) (hM : Met l y wsy rm (va_Pc As (fun _ => True)) (vp_Si (fun r => r = v)) 0 0 (fun _ => False)) (cw : CallB R s args own index y bytes maxL ret wsy rm 0 0 n ∧ (Cond.static y).before args s = true) (hn : As.length = n) (hsize : ls.size = nL) (hst : st0 = As.reverse ++ rest) (hW : (rest.map fun v => v.category).sum ≤ 8) (hf : cells ≤ R.cells ∧ slots ≤ R.slots) (hdg : decode cc pc = .ok (.invokestatic index, 3))
    (kk : W p l e R s m args below meth c H locs cells slots Q (F0 m (pc + 3) ls (.int v :: rest))) : W p l e R s m args below meth c H locs cells slots Q (F0 m pc ls st0) :=
  vp_callSi (W.runS S hM cw ⟨fun _ _ _ _ q => ⟨q.1, trivial⟩, fun U hU hW => ⟨rfl, trivial⟩⟩ rfl hn hsize hst (lv_room hW) hdg hf) (fun r h => by cases h; exact kk)
theorem hcSl {v : Int64} (S : CallFix p m c cc nL s args Ts own) (hM : Met l y wsy rm (va_Pc As (fun _ => True)) (vp_Sl (fun r => r = v)) 0 0 (fun _ => False)) (cw : CallB R s args own index y bytes maxL ret wsy rm 0 0 n ∧ (Cond.static y).before args s = true) (hn : As.length = n) (hsize : ls.size = nL) (hst : st0 = As.reverse ++ rest) (hW : (rest.map fun v => v.category).sum ≤ 8) (hf : cells ≤ R.cells ∧ slots ≤ R.slots) (hdg : decode cc pc = .ok (.invokestatic index, 3))
    (kk : W p l e R s m args below meth c H locs cells slots Q (F0 m (pc + 3) ls (.long v :: rest))) : W p l e R s m args below meth c H locs cells slots Q (F0 m pc ls st0) :=
  vp_callSl (W.runS S hM cw ⟨fun _ _ _ _ q => ⟨q.1, trivial⟩, fun U hU hW => ⟨rfl, trivial⟩⟩ rfl hn hsize hst (lv_room hW) hdg hf) (fun r h => by cases h; exact kk)
theorem J_free (hperm : ws.Perm (wr ++ wc)) (hD : va_D A0 ws) (hS : va_S A0 H0 H locs) (hA : ∀ q, H0.size ≤ q → A0 q) : ∀ q, va_A wc H.size q → A0 q := by
  intro q h
  rcases A_iff.mp h with ⟨k, hk, rfl⟩ | h
  · exact (D_iff.mp (D_perm hperm hD)).2 k (List.mem_append_right _ hk)
  · exact hA q (Nat.le_trans hS.1 h)
theorem hcMi {S0 : Type} {f : S0 → va_W} {F : Int32 × S0} (q0 ci : Nat) (S : CallFix p m c cc nL s args Ts own) (hM : Met l y wsy rm (MPc D ca H.size wc (.ref b :: As)) (va_Qi (fun r v => (r, v) = F) (MB D ca (va_A wc H.size) f) (va_A wc H.size)) mc ms (va_A wc H.size)) (cw : CallW R s args own C index y bytes maxL ret wsy rm mc ms n) (hK : va_K D vwCl (TYS ca) s) (hP : va_P D vwCl ws H) (hD : va_D A0 ws) (hS : va_S A0 H0 H locs) (hA : ∀ q, H0.size ≤ q → A0 q) (hperm : ws.Perm (wr ++ wc)) (he : wc[q0]? = some (b, .inr (ci, fs))) (hc : vwCl[ci]? = some (C, T, N)) (hn : As.length = n) (hsize : ls.size = nL) (hst : st0 = As.reverse ++ .ref b :: rest) (hW : (rest.map fun v => v.category).sum ≤ 8) (hf : cells + mc ≤ R.cells ∧ slots + ms ≤ R.slots) (hdg : decode cc pc = .ok (.invokevirtual index, 3))
    (kk : ∀ (H1 : Heap) (locs1 : List Loc), va_P D vwCl (wr ++ f F.2) H1 → va_D A0 (wr ++ f F.2) → va_S A0 H0 H1 locs1 → W p l e R s m args below meth c H1 locs1 (cells + mc) (slots + ms) Q (F0 m (pc + 3) ls (.int F.1 :: rest))) : W p l e R s m args below meth c H locs cells slots Q (F0 m pc ls st0) := by
  have hPc := P_right (P_perm hperm hP)
  have hDc := D_right (D_perm hperm hD)
  have hF := J_free hperm hD hS hA
  refine va_calli (va_runV S hM cw ⟨MPc_blind, P_recv hK hPc he hc, fun U hU hW => ⟨rfl, by rw [hU], by rw [hU]; exact hPc, va_K.moved hW.alike hK, hDc.weaken (fun _ _ _ _ => trivial)⟩⟩ rfl hn hsize hst (lv_room hW) hdg hf) hS (fun q _ h => hF q h) hF (fun r u t H1 locs1 ht hvm hw hB hz hk hS1 => ?_)
  obtain ⟨hP1, -, hD1⟩ := hB
  rw [ht] at hP1
  obtain ⟨g1, g2⟩ := J_join hperm hP hD hk hF hP1 hD1
  cases hw
  exact kk H1 locs1 g1 g2 hS1
theorem hcMl {S0 : Type} {f : S0 → va_W} {F : Int64 × S0} (q0 ci : Nat) (S : CallFix p m c cc nL s args Ts own) (hM : Met l y wsy rm (MPc D ca H.size wc (.ref b :: As)) (va_Ql (fun r v => (r, v) = F) (MB D ca (va_A wc H.size) f) (va_A wc H.size)) mc ms (va_A wc H.size)) (cw : CallW R s args own C index y bytes maxL ret wsy rm mc ms n) (hK : va_K D vwCl (TYS ca) s) (hP : va_P D vwCl ws H) (hD : va_D A0 ws) (hS : va_S A0 H0 H locs) (hA : ∀ q, H0.size ≤ q → A0 q) (hperm : ws.Perm (wr ++ wc)) (he : wc[q0]? = some (b, .inr (ci, fs))) (hc : vwCl[ci]? = some (C, T, N)) (hn : As.length = n) (hsize : ls.size = nL) (hst : st0 = As.reverse ++ .ref b :: rest) (hW : (rest.map fun v => v.category).sum ≤ 8) (hf : cells + mc ≤ R.cells ∧ slots + ms ≤ R.slots) (hdg : decode cc pc = .ok (.invokevirtual index, 3))
    (kk : ∀ (H1 : Heap) (locs1 : List Loc), va_P D vwCl (wr ++ f F.2) H1 → va_D A0 (wr ++ f F.2) → va_S A0 H0 H1 locs1 → W p l e R s m args below meth c H1 locs1 (cells + mc) (slots + ms) Q (F0 m (pc + 3) ls (.long F.1 :: rest))) : W p l e R s m args below meth c H locs cells slots Q (F0 m pc ls st0) := by
  have hPc := P_right (P_perm hperm hP)
  have hDc := D_right (D_perm hperm hD)
  have hF := J_free hperm hD hS hA
  refine va_calll (va_runV S hM cw ⟨MPc_blind, P_recv hK hPc he hc, fun U hU hW => ⟨rfl, by rw [hU], by rw [hU]; exact hPc, va_K.moved hW.alike hK, hDc.weaken (fun _ _ _ _ => trivial)⟩⟩ rfl hn hsize hst (lv_room hW) hdg hf) hS (fun q _ h => hF q h) hF (fun r u t H1 locs1 ht hvm hw hB hz hk hS1 => ?_)
  obtain ⟨hP1, -, hD1⟩ := hB
  rw [ht] at hP1
  obtain ⟨g1, g2⟩ := J_join hperm hP hD hk hF hP1 hD1
  cases hw
  exact kk H1 locs1 g1 g2 hS1
theorem hcMv {S0 : Type} {f : S0 → va_W} {F : S0} (q0 ci : Nat) (S : CallFix p m c cc nL s args Ts own) (hM : Met l y wsy rm (MPc D ca H.size wc (.ref b :: As)) (va_Qv (fun v => v = F) (MB D ca (va_A wc H.size) f) (va_A wc H.size)) mc ms (va_A wc H.size)) (cw : CallW R s args own C index y bytes maxL ret wsy rm mc ms n) (hK : va_K D vwCl (TYS ca) s) (hP : va_P D vwCl ws H) (hD : va_D A0 ws) (hS : va_S A0 H0 H locs) (hA : ∀ q, H0.size ≤ q → A0 q) (hperm : ws.Perm (wr ++ wc)) (he : wc[q0]? = some (b, .inr (ci, fs))) (hc : vwCl[ci]? = some (C, T, N)) (hn : As.length = n) (hsize : ls.size = nL) (hst : st0 = As.reverse ++ .ref b :: rest) (hW : (rest.map fun v => v.category).sum ≤ 8) (hf : cells + mc ≤ R.cells ∧ slots + ms ≤ R.slots) (hdg : decode cc pc = .ok (.invokevirtual index, 3))
    (kk : ∀ (H1 : Heap) (locs1 : List Loc), va_P D vwCl (wr ++ f F) H1 → va_D A0 (wr ++ f F) → va_S A0 H0 H1 locs1 → W p l e R s m args below meth c H1 locs1 (cells + mc) (slots + ms) Q (F0 m (pc + 3) ls (rest))) : W p l e R s m args below meth c H locs cells slots Q (F0 m pc ls st0) := by
  have hPc := P_right (P_perm hperm hP)
  have hDc := D_right (D_perm hperm hD)
  have hF := J_free hperm hD hS hA
  refine va_callv (va_runV S hM cw ⟨MPc_blind, P_recv hK hPc he hc, fun U hU hW => ⟨rfl, by rw [hU], by rw [hU]; exact hPc, va_K.moved hW.alike hK, hDc.weaken (fun _ _ _ _ => trivial)⟩⟩ rfl hn hsize hst (lv_room hW) hdg hf) hS (fun q _ h => hF q h) hF (fun u t H1 locs1 ht hvm hw hB hz hk hS1 => ?_)
  obtain ⟨hP1, -, hD1⟩ := hB
  rw [ht] at hP1
  obtain ⟨g1, g2⟩ := J_join hperm hP hD hk hF hP1 hD1
  cases hw
  exact kk H1 locs1 g1 g2 hS1
/-- reads at a counted place -/
theorem ialdN {cl : List vw_C} {tys : List (ClassId × FieldType)} {a : Nat} (hexec : p.tables.exec = Jvm.exec) (hb : c.code = cc) (hK : va_K D cl tys s) (hP : va_P D cl ws H) (q0 t0 : Nat) {cA : ClassId} {n k : Nat} {f : Nat → Int32} (ha : ws[q0]? = some (a, .inl (cA, n, .inl f))) (ht : tys[t0]? = some (cA, .int)) (hk : k < n) (hn : n < 2 ^ 31) (hdg : decode cc pc = .ok (.iaload, 1))
    (kk : W p l e R s m args below meth c H locs cells slots Q (F0 m (pc + 1) ls (.int (f k) :: rest))) : W p l e R s m args below meth c H locs cells slots Q (F0 m pc ls (.int (nI k) :: .ref a :: rest)) :=
  va_iald hexec hb hK hP q0 t0 ha ht (vp_in_nI hk hn) hdg (by rw [nI_clamp (Nat.lt_trans hk hn)]; exact kk)
theorem laldN {cl : List vw_C} {tys : List (ClassId × FieldType)} {a : Nat} (hexec : p.tables.exec = Jvm.exec) (hb : c.code = cc) (hK : va_K D cl tys s) (hP : va_P D cl ws H) (q0 t0 : Nat) {cA : ClassId} {n k : Nat} {f : Nat → Int64} (ha : ws[q0]? = some (a, .inl (cA, n, .inr (.inl f)))) (ht : tys[t0]? = some (cA, .long)) (hk : k < n) (hn : n < 2 ^ 31) (hdg : decode cc pc = .ok (.laload, 1))
    (kk : W p l e R s m args below meth c H locs cells slots Q (F0 m (pc + 1) ls (.long (f k) :: rest))) : W p l e R s m args below meth c H locs cells slots Q (F0 m pc ls (.int (nI k) :: .ref a :: rest)) :=
  va_lald hexec hb hK hP q0 t0 ha ht (vp_in_nI hk hn) hdg (by rw [nI_clamp (Nat.lt_trans hk hn)]; exact kk)
theorem iastN {cl : List vw_C} {tys : List (ClassId × FieldType)} {a : Nat} {A : Nat → Prop} (hexec : p.tables.exec = Jvm.exec) (hb : c.code = cc) (hK : va_K D cl tys s) (hP : va_P D cl ws H) (hD : va_D A ws) (hS : va_S A H0 H locs) (q0 t0 : Nat) {cA : ClassId} {n k : Nat} {f : Nat → Int32} {x : Int32} (ha : ws[q0]? = some (a, .inl (cA, n, .inl f))) (ht : tys[t0]? = some (cA, .int)) (hk : k < n) (hn : n < 2 ^ 31) (hdg : decode cc pc = .ok (.iastore, 1))
    (kk : ∀ (H1 : Heap) (locs1 : List Loc), va_P D cl (ws.set q0 (a, .inl (cA, n, .inl (upd f k x)))) H1 → va_D A (ws.set q0 (a, .inl (cA, n, .inl (upd f k x)))) → va_S A H0 H1 locs1 → W p l e R s m args below meth c H1 locs1 cells slots Q (F0 m (pc + 1) ls rest)) : W p l e R s m args below meth c H locs cells slots Q (F0 m pc ls (.int x :: .int (nI k) :: .ref a :: rest)) :=
  va_iast hexec hb hK hP hD hS q0 t0 ha ht (vp_in_nI hk hn) hdg (by rw [nI_clamp (Nat.lt_trans hk hn)]; exact kk)
/-- the entry of a method -/
theorem W_entry {vs : List Value} {nL : Nat} (h : (lg_sl vs).length ≤ nL) (k : ∀ ls : Array Slot, lv_has ls nL (lv_args 0 vs) → W p l e R s m args below meth c H locs cells slots Q (F0 m 0 ls [])) : W p l e R s m args below meth c H locs cells slots Q (entryFrame m vs.toArray nL) := by
  rw [lg_entry_eq]
  exact k _ (lv_entry vs h)
end CALLS
/-- shifts of longs by an int -/
def ush (x : Int64) (y : Int32) : Int64 := (x.toUInt64 >>> (y.toInt64.toUInt64 &&& Int64.toUInt64 63)).toInt64
def lsh (x : Int64) (y : Int32) : Int64 := x <<< (y.toInt64 &&& 63)
end
section
def fX3_hasGuest (u : HS) (x1 : Int32) : Int32 :=
  (if x1 < 0 then 0 else (if (h9 u) ≤ x1 then 0 else 1))
set_option maxHeartbeats 4000000 in
set_option maxRecDepth 100000 in
/-- hasGuest -/
theorem kX3_hasGuest (l : Launch) (D : va_G) (ca : Nat → ClassId) (a : Nat → Nat) (u : HS) (x1 : Int32) : Met l yX3_hasGuest wsX3_hasGuest ({ frames := 0, cells := 0, slots := 0, locals := 0 }) (RPc D ca (HW ca a u) [.ref (a 8), .int x1]) (vp_Si (fun r => r = fX3_hasGuest u x1)) 0 0 (fun _ => False) := by
  refine Met.ofW (cc := cX3_hasGuest) (maxL := 2) (ret := (some .boolean)) (by decide) rfl ?_
  intro p e s m args below meth c s₁ B hml hv
  obtain ⟨rfl, hP, hK⟩ := hv
  have hx := B.exec
  have hb := B.bytes
  have hr := B.returns
  have hts := atoms_spec (ws := wsX3_hasGuest) B.pre
  have hown : s.vm.findClass RX3 = some m.cls := findClass_of_methodNamed B.named
  have hlocks := B.notSynchronized
  have hin3 : ∀ w ∈ wsX30, w ∈ wsX3_hasGuest := by decide +kernel
  have hf : fX3_hasGuest u x1 = fX3_hasGuest u x1 := rfl
  refine W_entry (Nat.le_of_ble_eq_true rfl) (fun ls hl => ?_)
  have hl : lv_has ls 2 [(0, .ref (a 8)), (1, .int x1)] := hl
  refine lv_iload_n hx hb dX3_hasGuest_0 rfl (lv_at hl 1 rfl) ?_
  refine lv_if_lt (tgt := 16) hx hb dX3_hasGuest_1 (by decide) (fun c_1 => ?_) (fun c_1 => ?_)
  · have hf := hf.trans (if_pos c_1)
    refine lv_iconst (v := 0) hx hb dX3_hasGuest_16 (by decide) ?_
    exact W.zret (ty := .boolean) (v := 0) hx hb hr (by decide) (fun t ht hW => ⟨0, rfl, hf.symm, ht⟩) (fun _ h => by cases h) dX3_hasGuest_17
  · have hf := hf.trans (if_neg c_1)
    refine lv_iload_n hx hb dX3_hasGuest_4 rfl (lv_at hl 1 rfl) ?_
    refine lv_aload_n hx hb dX3_hasGuest_5 rfl (lv_at hl 0 rfl) ?_
    refine va_get (D := D) (ci := 4) (v := .int (h9 u)) (C := RX3) (T := TX3) (N := 15) hx hb hts hin3 hown hK hP 0 rfl rfl 9 (by decide) (hts (.fieldLink RX3 41 "HatReservations$Hall" "guests" "I") (by decide +kernel)) (fun _ h9 => h9) rfl dX3_hasGuest_6 ?_
    refine lv_icmp_ge (tgt := 16) hx hb dX3_hasGuest_9 (by decide) (fun c_9 => ?_) (fun c_9 => ?_)
    · have hf := hf.trans (if_pos c_9)
      refine lv_iconst (v := 0) hx hb dX3_hasGuest_16 (by decide) ?_
      exact W.zret (ty := .boolean) (v := 0) hx hb hr (by decide) (fun t ht hW => ⟨0, rfl, hf.symm, ht⟩) (fun _ h => by cases h) dX3_hasGuest_17
    · have hf := hf.trans (if_neg c_9)
      refine lv_iconst (v := 1) hx hb dX3_hasGuest_12 (by decide) ?_
      refine lv_goto (tgt := 17) hx hb dX3_hasGuest_13 (by decide) ?_
      exact W.zret (ty := .boolean) (v := 1) hx hb hr (by decide) (fun t ht hW => ⟨1, rfl, hf.symm, ht⟩) (fun _ h => by cases h) dX3_hasGuest_17
theorem hasGuest_in {u : HS} {x : Int32} (hgs : h9 u ≤ 8) (h : ¬ fX3_hasGuest u x = 0) : vp_in x 8 := by
  unfold fX3_hasGuest at h
  by_cases c1 : x < 0
  · rw [if_pos c1] at h; exact absurd rfl h
  · rw [if_neg c1] at h
    by_cases c2 : h9 u ≤ x
    · rw [if_pos c2] at h; exact absurd rfl h
    · rw [vp_in_iff]
      rw [Int32.le_iff_toInt_le] at hgs c2
      rw [Int32.lt_iff_toInt_lt] at c1
      have e0 : (0 : Int32).toInt = 0 := by decide
      have e8 : (8 : Int32).toInt = 8 := by decide
      rw [e0] at c1; rw [e8] at hgs
      omega
def fX3_hasChair (x1 : Int32) : Int32 :=
  (if x1 < 0 then 0 else (if 40 ≤ x1 then 0 else 1))
set_option maxHeartbeats 4000000 in
set_option maxRecDepth 100000 in
/-- hasChair -/
theorem kX3_hasChair (l : Launch) (x1 : Int32) : Met l yX3_hasChair wsX3_hasChair ({ frames := 0, cells := 0, slots := 0, locals := 0 }) (va_Pc [.int x1] (fun _ => True)) (vp_Si (fun r => r = fX3_hasChair x1)) 0 0 (fun _ => False) := by
  refine Met.ofW (cc := cX3_hasChair) (maxL := 1) (ret := (some .boolean)) (by decide) rfl ?_
  intro p e s m args below meth c s₁ B hml hv
  obtain ⟨rfl, -⟩ := hv
  have hx := B.exec
  have hb := B.bytes
  have hr := B.returns
  have hts := atoms_spec (ws := wsX3_hasChair) B.pre
  have hown : s.vm.findClass RX3 = some m.cls := findClass_of_methodNamed B.named
  have hlocks := B.notSynchronized
  have hf : fX3_hasChair x1 = fX3_hasChair x1 := rfl
  refine W_entry (Nat.le_of_ble_eq_true rfl) (fun ls hl => ?_)
  have hl : lv_has ls 1 [(0, .int x1)] := hl
  refine lv_iload_n hx hb dX3_hasChair_0 rfl (lv_at hl 0 rfl) ?_
  refine lv_if_lt (tgt := 14) hx hb dX3_hasChair_1 (by decide) (fun c_1 => ?_) (fun c_1 => ?_)
  · have hf := hf.trans (if_pos c_1)
    refine lv_iconst (v := 0) hx hb dX3_hasChair_14 (by decide) ?_
    exact W.zret (ty := .boolean) (v := 0) hx hb hr (by decide) (fun t ht hW => ⟨0, rfl, hf.symm, ht⟩) (fun _ h => by cases h) dX3_hasChair_15
  · have hf := hf.trans (if_neg c_1)
    refine lv_iload_n hx hb dX3_hasChair_4 rfl (lv_at hl 0 rfl) ?_
    refine lv_bipush (v := 40) hx hb dX3_hasChair_5 (by decide) ?_
    refine lv_icmp_ge (tgt := 14) hx hb dX3_hasChair_7 (by decide) (fun c_7 => ?_) (fun c_7 => ?_)
    · have hf := hf.trans (if_pos c_7)
      refine lv_iconst (v := 0) hx hb dX3_hasChair_14 (by decide) ?_
      exact W.zret (ty := .boolean) (v := 0) hx hb hr (by decide) (fun t ht hW => ⟨0, rfl, hf.symm, ht⟩) (fun _ h => by cases h) dX3_hasChair_15
    · have hf := hf.trans (if_neg c_7)
      refine lv_iconst (v := 1) hx hb dX3_hasChair_10 (by decide) ?_
      refine lv_goto (tgt := 15) hx hb dX3_hasChair_11 (by decide) ?_
      exact W.zret (ty := .boolean) (v := 1) hx hb hr (by decide) (fun t ht hW => ⟨1, rfl, hf.symm, ht⟩) (fun _ h => by cases h) dX3_hasChair_15
def fX3_hatIsPlaced (u : HS) (x1 : Int32) : Int32 :=
  (if ((h2 u) x1.toNatClampNeg) = (-1) then 0 else 1)
set_option maxHeartbeats 4000000 in
set_option maxRecDepth 100000 in
/-- hatIsPlaced -/
theorem kX3_hatIsPlaced (l : Launch) (D : va_G) (ca : Nat → ClassId) (a : Nat → Nat) (u : HS) (x1 : Int32) (hg : vp_in x1 8) : Met l yX3_hatIsPlaced wsX3_hatIsPlaced ({ frames := 0, cells := 0, slots := 0, locals := 0 }) (RPc D ca (HW ca a u) [.ref (a 8), .int x1]) (vp_Si (fun r => r = fX3_hatIsPlaced u x1)) 0 0 (fun _ => False) := by
  refine Met.ofW (cc := cX3_hatIsPlaced) (maxL := 2) (ret := (some .boolean)) (by decide) rfl ?_
  intro p e s m args below meth c s₁ B hml hv
  obtain ⟨rfl, hP, hK⟩ := hv
  have hx := B.exec
  have hb := B.bytes
  have hr := B.returns
  have hts := atoms_spec (ws := wsX3_hatIsPlaced) B.pre
  have hown : s.vm.findClass RX3 = some m.cls := findClass_of_methodNamed B.named
  have hlocks := B.notSynchronized
  have hin3 : ∀ w ∈ wsX30, w ∈ wsX3_hatIsPlaced := by decide +kernel
  have hf : fX3_hatIsPlaced u x1 = fX3_hatIsPlaced u x1 := rfl
  refine W_entry (Nat.le_of_ble_eq_true rfl) (fun ls hl => ?_)
  have hl : lv_has ls 2 [(0, .ref (a 8)), (1, .int x1)] := hl
  refine lv_aload_n hx hb dX3_hatIsPlaced_0 rfl (lv_at hl 0 rfl) ?_
  refine va_get (D := D) (ci := 4) (v := .ref (a 2)) (C := RX3) (T := TX3) (N := 15) hx hb hts hin3 hown hK hP 0 rfl rfl 2 (by decide) (hts (.fieldLink RX3 18 "HatReservations$Hall" "hatChairs" "[I") (by decide +kernel)) (fun _ h9 => h9) rfl dX3_hatIsPlaced_1 ?_
  refine lv_iload_n hx hb dX3_hatIsPlaced_4 rfl (lv_at hl 1 rfl) ?_
  refine va_iald (f := h2 u) hx hb hK hP 3 0 rfl rfl hg dX3_hatIsPlaced_5 ?_
  refine lv_iconst (v := (-1)) hx hb dX3_hatIsPlaced_6 (by decide) ?_
  refine lv_icmp_eq (tgt := 14) hx hb dX3_hatIsPlaced_7 (by decide) (fun c_7 => ?_) (fun c_7 => ?_)
  · have hf := hf.trans (if_pos c_7)
    refine lv_iconst (v := 0) hx hb dX3_hatIsPlaced_14 (by decide) ?_
    exact W.zret (ty := .boolean) (v := 0) hx hb hr (by decide) (fun t ht hW => ⟨0, rfl, hf.symm, ht⟩) (fun _ h => by cases h) dX3_hatIsPlaced_15
  · have hf := hf.trans (if_neg c_7)
    refine lv_iconst (v := 1) hx hb dX3_hatIsPlaced_10 (by decide) ?_
    refine lv_goto (tgt := 15) hx hb dX3_hatIsPlaced_11 (by decide) ?_
    exact W.zret (ty := .boolean) (v := 1) hx hb hr (by decide) (fun t ht hW => ⟨1, rfl, hf.symm, ht⟩) (fun _ h => by cases h) dX3_hatIsPlaced_15
def fX3_covererAt_2 : Nat → Nat → HS → Int32 → Int32
  | 0, k, u, x1 => (-1)
  | n + 1, k, u, x1 => (if (lg_cmp ((ush ((h4 u) k) x1) &&& 1) 0) = 0 then fX3_covererAt_2 n (k + 1) u x1 else (nI k))
def fX3_covererAt (u : HS) (x1 : Int32) : Int32 :=
  fX3_covererAt_2 8 0 u x1
set_option maxHeartbeats 4000000 in
set_option maxRecDepth 100000 in
/-- covererAt -/
theorem kX3_covererAt (l : Launch) (D : va_G) (ca : Nat → ClassId) (a : Nat → Nat) (u : HS) (x1 : Int32) : Met l yX3_covererAt wsX3_covererAt ({ frames := 0, cells := 0, slots := 0, locals := 0 }) (RPc D ca (HW ca a u) [.ref (a 8), .int x1]) (vp_Si (fun r => r = fX3_covererAt u x1)) 0 0 (fun _ => False) := by
  refine Met.ofW (cc := cX3_covererAt) (maxL := 3) (ret := (some .int)) (by decide) rfl ?_
  intro p e s m args below meth c s₁ B hml hv
  obtain ⟨rfl, hP, hK⟩ := hv
  have hx := B.exec
  have hb := B.bytes
  have hr := B.returns
  have hts := atoms_spec (ws := wsX3_covererAt) B.pre
  have hown : s.vm.findClass RX3 = some m.cls := findClass_of_methodNamed B.named
  have hlocks := B.notSynchronized
  have hin3 : ∀ w ∈ wsX30, w ∈ wsX3_covererAt := by decide +kernel
  have cut_2 : ∀ (n k : Nat) (hnk : n + k = 8) (hf : fX3_covererAt u x1 = fX3_covererAt_2 n k u x1) (ls : Array Slot) (hl : lv_has ls 3 [(0, .ref (a 8)), (1, .int x1), (2, .int (nI k))]), W p l e (headSpec wsX3_covererAt ({ frames := 0, cells := 0, slots := 0, locals := 0 })).room s m ([.ref (a 8), .int x1] : List Value).toArray below meth c s.heap [] 0 0 (MQ below (vp_Si (fun r => r = fX3_covererAt u x1)) ([.ref (a 8), .int x1] : List Value).toArray s 0 0 (fun _ => False)) (F0 m 2 ls []) := by
    intro n
    induction n with
    | zero =>
      intro k hnk hf ls hl
      obtain rfl : k = 8 := by omega
      refine lv_iload_n hx hb dX3_covererAt_2 rfl (lv_at hl 2 rfl) ?_
      refine lv_bipush (v := 8) hx hb dX3_covererAt_3 (by decide) ?_
      refine lv_icmp_ge (tgt := 31) hx hb dX3_covererAt_5 (by decide) (fun _ => ?_) (fun q => absurd (by decide) q)
      refine lv_iconst (v := (-1)) hx hb dX3_covererAt_31 (by decide) ?_
      exact W.iret (v := (-1)) hx hb hr (fun t ht hW => ⟨(-1), rfl, hf.symm, ht⟩) (fun _ h => by cases h) dX3_covererAt_32
    | succ n ih =>
      intro k hnk hf ls hl
      refine lv_iload_n hx hb dX3_covererAt_2 rfl (lv_at hl 2 rfl) ?_
      refine lv_bipush (v := 8) hx hb dX3_covererAt_3 (by decide) ?_
      refine lv_icmp_ge (tgt := 31) hx hb dX3_covererAt_5 (by decide) (fun q => absurd q (show ¬ (8 : Int32) ≤ nI k from nI_ge (b := 8) (by omega) (by decide))) (fun _ => ?_)
      refine lv_aload_n hx hb dX3_covererAt_8 rfl (lv_at hl 0 rfl) ?_
      refine va_get (D := D) (ci := 4) (v := .ref (a 4)) (C := RX3) (T := TX3) (N := 15) hx hb hts hin3 hown hK hP 0 rfl rfl 4 (by decide) (hts (.fieldLink RX3 24 "HatReservations$Hall" "covers" "[J") (by decide +kernel)) (fun _ h9 => h9) rfl dX3_covererAt_9 ?_
      refine lv_iload_n hx hb dX3_covererAt_12 rfl (lv_at hl 2 rfl) ?_
      refine laldN (f := h4 u) hx hb hK hP 5 1 rfl rfl (k := k) (by omega) (by decide) dX3_covererAt_13 ?_
      refine lv_iload_n hx hb dX3_covererAt_14 rfl (lv_at hl 1 rfl) ?_
      refine lv_lushr (v := ush ((h4 u) k) x1) hx hb dX3_covererAt_15 rfl ?_
      refine lv_lconst (v := 1) hx hb dX3_covererAt_16 (by decide) ?_
      refine lv_land hx hb dX3_covererAt_17 ?_
      refine lv_lconst (v := 0) hx hb dX3_covererAt_18 (by decide) ?_
      refine W.lcmp hx hb dX3_covererAt_19 ?_
      refine lv_if_eq (tgt := 25) hx hb dX3_covererAt_20 (by decide) (fun c_20 => ?_) (fun c_20 => ?_)
      · have hf := hf.trans (if_pos c_20)
        refine lv_iinc (v := nI (k + 1)) (lv' := [(2, .int (nI (k + 1))), (0, .ref (a 8)), (1, .int x1)]) hx hb dX3_covererAt_25 hl (k := 2) rfl (nI_1 k) (by decide) rfl (fun ls hl => ?_)
        refine lv_goto (tgt := 2) hx hb dX3_covererAt_28 (by decide) ?_
        exact ih (k + 1) (by omega)   hf ls (lv_sub hl [1, 2, 0] rfl)
      · have hf := hf.trans (if_neg c_20)
        refine lv_iload_n hx hb dX3_covererAt_23 rfl (lv_at hl 2 rfl) ?_
        exact W.iret (v := nI k) hx hb hr (fun t ht hW => ⟨nI k, rfl, hf.symm, ht⟩) (fun _ h => by cases h) dX3_covererAt_24
  have hf : fX3_covererAt u x1 = fX3_covererAt u x1 := rfl
  refine W_entry (Nat.le_of_ble_eq_true rfl) (fun ls hl => ?_)
  have hl : lv_has ls 3 [(0, .ref (a 8)), (1, .int x1)] := hl
  refine lv_iconst (v := 0) hx hb dX3_covererAt_0 (by decide) ?_
  refine lv_istore_n (lv' := [(2, .int 0), (0, .ref (a 8)), (1, .int x1)]) hx hb dX3_covererAt_1 rfl hl (by decide) rfl (fun ls hl => ?_)
  exact cut_2 8 0 (by omega)   hf ls (lv_sub hl [1, 2, 0] rfl)
def fX3_coatsOn_4 : Nat → Nat → HS → Int32 → Int32 → Int32
  | 0, k, u, x1, y2 => y2
  | n + 1, k, u, x1, y2 => (if ((h5 u) k) = x1 then fX3_coatsOn_4 n (k + 1) u x1 (y2 + 1) else fX3_coatsOn_4 n (k + 1) u x1 y2)
def fX3_coatsOn (u : HS) (x1 : Int32) : Int32 :=
  fX3_coatsOn_4 8 0 u x1 0
set_option maxHeartbeats 4000000 in
set_option maxRecDepth 100000 in
/-- coatsOn -/
theorem kX3_coatsOn (l : Launch) (D : va_G) (ca : Nat → ClassId) (a : Nat → Nat) (u : HS) (x1 : Int32) : Met l yX3_coatsOn wsX3_coatsOn ({ frames := 0, cells := 0, slots := 0, locals := 0 }) (RPc D ca (HW ca a u) [.ref (a 8), .int x1]) (vp_Si (fun r => r = fX3_coatsOn u x1)) 0 0 (fun _ => False) := by
  refine Met.ofW (cc := cX3_coatsOn) (maxL := 4) (ret := (some .int)) (by decide) rfl ?_
  intro p e s m args below meth c s₁ B hml hv
  obtain ⟨rfl, hP, hK⟩ := hv
  have hx := B.exec
  have hb := B.bytes
  have hr := B.returns
  have hts := atoms_spec (ws := wsX3_coatsOn) B.pre
  have hown : s.vm.findClass RX3 = some m.cls := findClass_of_methodNamed B.named
  have hlocks := B.notSynchronized
  have hin3 : ∀ w ∈ wsX30, w ∈ wsX3_coatsOn := by decide +kernel
  have cut_4 : ∀ (n k : Nat) (hnk : n + k = 8) (y2 : Int32) (hf : fX3_coatsOn u x1 = fX3_coatsOn_4 n k u x1 y2) (ls : Array Slot) (hl : lv_has ls 4 [(0, .ref (a 8)), (1, .int x1), (2, .int y2), (3, .int (nI k))]), W p l e (headSpec wsX3_coatsOn ({ frames := 0, cells := 0, slots := 0, locals := 0 })).room s m ([.ref (a 8), .int x1] : List Value).toArray below meth c s.heap [] 0 0 (MQ below (vp_Si (fun r => r = fX3_coatsOn u x1)) ([.ref (a 8), .int x1] : List Value).toArray s 0 0 (fun _ => False)) (F0 m 4 ls []) := by
    intro n
    induction n with
    | zero =>
      intro k hnk y2 hf ls hl
      obtain rfl : k = 8 := by omega
      refine lv_iload_n hx hb dX3_coatsOn_4 rfl (lv_at hl 3 rfl) ?_
      refine lv_bipush (v := 8) hx hb dX3_coatsOn_5 (by decide) ?_
      refine lv_icmp_ge (tgt := 29) hx hb dX3_coatsOn_7 (by decide) (fun _ => ?_) (fun q => absurd (by decide) q)
      refine lv_iload_n hx hb dX3_coatsOn_29 rfl (lv_at hl 2 rfl) ?_
      exact W.iret (v := y2) hx hb hr (fun t ht hW => ⟨y2, rfl, hf.symm, ht⟩) (fun _ h => by cases h) dX3_coatsOn_30
    | succ n ih =>
      intro k hnk y2 hf ls hl
      refine lv_iload_n hx hb dX3_coatsOn_4 rfl (lv_at hl 3 rfl) ?_
      refine lv_bipush (v := 8) hx hb dX3_coatsOn_5 (by decide) ?_
      refine lv_icmp_ge (tgt := 29) hx hb dX3_coatsOn_7 (by decide) (fun q => absurd q (show ¬ (8 : Int32) ≤ nI k from nI_ge (b := 8) (by omega) (by decide))) (fun _ => ?_)
      refine lv_aload_n hx hb dX3_coatsOn_10 rfl (lv_at hl 0 rfl) ?_
      refine va_get (D := D) (ci := 4) (v := .ref (a 5)) (C := RX3) (T := TX3) (N := 15) hx hb hts hin3 hown hK hP 0 rfl rfl 5 (by decide) (hts (.fieldLink RX3 28 "HatReservations$Hall" "coatChairs" "[I") (by decide +kernel)) (fun _ h9 => h9) rfl dX3_coatsOn_11 ?_
      refine lv_iload_n hx hb dX3_coatsOn_14 rfl (lv_at hl 3 rfl) ?_
      refine ialdN (f := h5 u) hx hb hK hP 6 0 rfl rfl (k := k) (by omega) (by decide) dX3_coatsOn_15 ?_
      refine lv_iload_n hx hb dX3_coatsOn_16 rfl (lv_at hl 1 rfl) ?_
      refine lv_icmp_ne (tgt := 23) hx hb dX3_coatsOn_17 (by decide) (fun c_17 => ?_) (fun c_17 => ?_)
      · have hf := hf.trans (if_neg c_17)
        refine lv_iinc (v := nI (k + 1)) (lv' := [(3, .int (nI (k + 1))), (0, .ref (a 8)), (1, .int x1), (2, .int y2)]) hx hb dX3_coatsOn_23 hl (k := 3) rfl (nI_1 k) (by decide) rfl (fun ls hl => ?_)
        refine lv_goto (tgt := 4) hx hb dX3_coatsOn_26 (by decide) ?_
        exact ih (k + 1) (by omega) y2  hf ls (lv_sub hl [1, 2, 3, 0] rfl)
      · have hf := hf.trans (if_pos c_17)
        refine lv_iinc (v := y2 + 1) (lv' := [(2, .int (y2 + 1)), (0, .ref (a 8)), (1, .int x1), (3, .int (nI k))]) hx hb dX3_coatsOn_20 hl (k := 2) rfl rfl (by decide) rfl (fun ls hl => ?_)
        refine lv_iinc (v := nI (k + 1)) (lv' := [(3, .int (nI (k + 1))), (2, .int (y2 + 1)), (0, .ref (a 8)), (1, .int x1)]) hx hb dX3_coatsOn_23 hl (k := 3) rfl (nI_1 k) (by decide) rfl (fun ls hl => ?_)
        refine lv_goto (tgt := 4) hx hb dX3_coatsOn_26 (by decide) ?_
        exact ih (k + 1) (by omega) (y2 + 1)  hf ls (lv_sub hl [2, 3, 1, 0] rfl)
  have hf : fX3_coatsOn u x1 = fX3_coatsOn u x1 := rfl
  refine W_entry (Nat.le_of_ble_eq_true rfl) (fun ls hl => ?_)
  have hl : lv_has ls 4 [(0, .ref (a 8)), (1, .int x1)] := hl
  refine lv_iconst (v := 0) hx hb dX3_coatsOn_0 (by decide) ?_
  refine lv_istore_n (lv' := [(2, .int 0), (0, .ref (a 8)), (1, .int x1)]) hx hb dX3_coatsOn_1 rfl hl (by decide) rfl (fun ls hl => ?_)
  refine lv_iconst (v := 0) hx hb dX3_coatsOn_2 (by decide) ?_
  refine lv_istore_n (lv' := [(3, .int 0), (2, .int 0), (0, .ref (a 8)), (1, .int x1)]) hx hb dX3_coatsOn_3 rfl hl (by decide) rfl (fun ls hl => ?_)
  exact cut_4 8 0 (by omega) 0  hf ls (lv_sub hl [2, 3, 1, 0] rfl)
def fX3_refusalOfGuest (u : HS) (x1 : Int32) (x2 : Int32) : Int32 :=
  (if x1 < 0 then 1 else (if 9 < x1 then 1 else (if x2 < 0 then 1 else (if x2 ≤ 2 then (if (h9 u) < 8 then 0 else 2) else 1))))
set_option maxHeartbeats 4000000 in
set_option maxRecDepth 100000 in
/-- refusalOfGuest -/
theorem kX3_refusalOfGuest (l : Launch) (D : va_G) (ca : Nat → ClassId) (a : Nat → Nat) (u : HS) (x1 : Int32) (x2 : Int32) : Met l yX3_refusalOfGuest wsX3_refusalOfGuest ({ frames := 0, cells := 0, slots := 0, locals := 0 }) (RPc D ca (HW ca a u) [.ref (a 8), .int x1, .int x2]) (vp_Si (fun r => r = fX3_refusalOfGuest u x1 x2)) 0 0 (fun _ => False) := by
  refine Met.ofW (cc := cX3_refusalOfGuest) (maxL := 3) (ret := (some .int)) (by decide) rfl ?_
  intro p e s m args below meth c s₁ B hml hv
  obtain ⟨rfl, hP, hK⟩ := hv
  have hx := B.exec
  have hb := B.bytes
  have hr := B.returns
  have hts := atoms_spec (ws := wsX3_refusalOfGuest) B.pre
  have hown : s.vm.findClass RX3 = some m.cls := findClass_of_methodNamed B.named
  have hlocks := B.notSynchronized
  have hin3 : ∀ w ∈ wsX30, w ∈ wsX3_refusalOfGuest := by decide +kernel
  have hf : fX3_refusalOfGuest u x1 x2 = fX3_refusalOfGuest u x1 x2 := rfl
  refine W_entry (Nat.le_of_ble_eq_true rfl) (fun ls hl => ?_)
  have hl : lv_has ls 3 [(0, .ref (a 8)), (1, .int x1), (2, .int x2)] := hl
  refine lv_iload_n hx hb dX3_refusalOfGuest_0 rfl (lv_at hl 1 rfl) ?_
  refine lv_if_lt (tgt := 19) hx hb dX3_refusalOfGuest_1 (by decide) (fun c_1 => ?_) (fun c_1 => ?_)
  · have hf := hf.trans (if_pos c_1)
    refine lv_iconst (v := 1) hx hb dX3_refusalOfGuest_19 (by decide) ?_
    exact W.iret (v := 1) hx hb hr (fun t ht hW => ⟨1, rfl, hf.symm, ht⟩) (fun _ h => by cases h) dX3_refusalOfGuest_20
  · have hf := hf.trans (if_neg c_1)
    refine lv_iload_n hx hb dX3_refusalOfGuest_4 rfl (lv_at hl 1 rfl) ?_
    refine lv_bipush (v := 9) hx hb dX3_refusalOfGuest_5 (by decide) ?_
    refine lv_icmp_gt (tgt := 19) hx hb dX3_refusalOfGuest_7 (by decide) (fun c_7 => ?_) (fun c_7 => ?_)
    · have hf := hf.trans (if_pos c_7)
      refine lv_iconst (v := 1) hx hb dX3_refusalOfGuest_19 (by decide) ?_
      exact W.iret (v := 1) hx hb hr (fun t ht hW => ⟨1, rfl, hf.symm, ht⟩) (fun _ h => by cases h) dX3_refusalOfGuest_20
    · have hf := hf.trans (if_neg c_7)
      refine lv_iload_n hx hb dX3_refusalOfGuest_10 rfl (lv_at hl 2 rfl) ?_
      refine lv_if_lt (tgt := 19) hx hb dX3_refusalOfGuest_11 (by decide) (fun c_11 => ?_) (fun c_11 => ?_)
      · have hf := hf.trans (if_pos c_11)
        refine lv_iconst (v := 1) hx hb dX3_refusalOfGuest_19 (by decide) ?_
        exact W.iret (v := 1) hx hb hr (fun t ht hW => ⟨1, rfl, hf.symm, ht⟩) (fun _ h => by cases h) dX3_refusalOfGuest_20
      · have hf := hf.trans (if_neg c_11)
        refine lv_iload_n hx hb dX3_refusalOfGuest_14 rfl (lv_at hl 2 rfl) ?_
        refine lv_iconst (v := 2) hx hb dX3_refusalOfGuest_15 (by decide) ?_
        refine lv_icmp_le (tgt := 21) hx hb dX3_refusalOfGuest_16 (by decide) (fun c_16 => ?_) (fun c_16 => ?_)
        · have hf := hf.trans (if_pos c_16)
          refine lv_aload_n hx hb dX3_refusalOfGuest_21 rfl (lv_at hl 0 rfl) ?_
          refine va_get (D := D) (ci := 4) (v := .int (h9 u)) (C := RX3) (T := TX3) (N := 15) hx hb hts hin3 hown hK hP 0 rfl rfl 9 (by decide) (hts (.fieldLink RX3 41 "HatReservations$Hall" "guests" "I") (by decide +kernel)) (fun _ h9 => h9) rfl dX3_refusalOfGuest_22 ?_
          refine lv_bipush (v := 8) hx hb dX3_refusalOfGuest_25 (by decide) ?_
          refine lv_icmp_lt (tgt := 34) hx hb dX3_refusalOfGuest_27 (by decide) (fun c_27 => ?_) (fun c_27 => ?_)
          · have hf := hf.trans (if_pos c_27)
            refine lv_iconst (v := 0) hx hb dX3_refusalOfGuest_34 (by decide) ?_
            exact W.iret (v := 0) hx hb hr (fun t ht hW => ⟨0, rfl, hf.symm, ht⟩) (fun _ h => by cases h) dX3_refusalOfGuest_35
          · have hf := hf.trans (if_neg c_27)
            refine lv_iconst (v := 2) hx hb dX3_refusalOfGuest_30 (by decide) ?_
            refine lv_goto (tgt := 35) hx hb dX3_refusalOfGuest_31 (by decide) ?_
            exact W.iret (v := 2) hx hb hr (fun t ht hW => ⟨2, rfl, hf.symm, ht⟩) (fun _ h => by cases h) dX3_refusalOfGuest_35
        · have hf := hf.trans (if_neg c_16)
          refine lv_iconst (v := 1) hx hb dX3_refusalOfGuest_19 (by decide) ?_
          exact W.iret (v := 1) hx hb hr (fun t ht hW => ⟨1, rfl, hf.symm, ht⟩) (fun _ h => by cases h) dX3_refusalOfGuest_20
def fX3_refusalOfFeather (u : HS) (x1 : Int32) : Int32 :=
  (if (fX3_hasGuest u x1) = 0 then 1 else (if ((h0 u) x1.toNatClampNeg) < 9 then 0 else 2))
set_option maxHeartbeats 4000000 in
set_option maxRecDepth 100000 in
/-- refusalOfFeather -/
theorem kX3_refusalOfFeather (l : Launch) (D : va_G) (ca : Nat → ClassId) (a : Nat → Nat) (u : HS) (x1 : Int32) (hgs : h9 u ≤ 8) : Met l yX3_refusalOfFeather wsX3_refusalOfFeather ({ frames := 1, cells := 0, slots := 0, locals := 21 }) (RPc D ca (HW ca a u) [.ref (a 8), .int x1]) (vp_Si (fun r => r = fX3_refusalOfFeather u x1)) 0 0 (fun _ => False) := by
  refine Met.ofW (cc := cX3_refusalOfFeather) (maxL := 2) (ret := (some .int)) (by decide) rfl ?_
  intro p e s m args below meth c s₁ B hml hv
  obtain ⟨rfl, hP, hK⟩ := hv
  have hx := B.exec
  have hb := B.bytes
  have hr := B.returns
  have hts := atoms_spec (ws := wsX3_refusalOfFeather) B.pre
  have hown : s.vm.findClass RX3 = some m.cls := findClass_of_methodNamed B.named
  have hlocks := B.notSynchronized
  have hin3 : ∀ w ∈ wsX30, w ∈ wsX3_refusalOfFeather := by decide +kernel
  have hf : fX3_refusalOfFeather u x1 = fX3_refusalOfFeather u x1 := rfl
  refine W_entry (Nat.le_of_ble_eq_true rfl) (fun ls hl => ?_)
  have hl : lv_has ls 2 [(0, .ref (a 8)), (1, .int x1)] := hl
  refine lv_aload_n hx hb dX3_refusalOfFeather_0 rfl (lv_at hl 0 rfl) ?_
  refine lv_iload_n hx hb dX3_refusalOfFeather_1 rfl (lv_at hl 1 rfl) ?_
  refine hcRi (As := [.int x1]) (rest := []) 0 4 ⟨hx, hb, hml, hown, hts⟩ (kX3_hasGuest l D ca a u x1 ) (cwV 1 hts gX3_refusalOfFeather_X3_hasGuest rfl rfl rfl (by decide +kernel) ⟨Nat.le_of_ble_eq_true rfl, Nat.le_of_ble_eq_true rfl⟩) hK hP rfl rfl rfl hl.1 rfl (by decide) ⟨Nat.zero_le _, Nat.zero_le _⟩ dX3_refusalOfFeather_2 ?_
  refine lv_if_ne (tgt := 10) hx hb dX3_refusalOfFeather_5 (by decide) (fun c_5 => ?_) (fun c_5 => ?_)
  · have hf := hf.trans (if_neg c_5)
    refine lv_aload_n hx hb dX3_refusalOfFeather_10 rfl (lv_at hl 0 rfl) ?_
    refine va_get (D := D) (ci := 4) (v := .ref (a 0)) (C := RX3) (T := TX3) (N := 15) hx hb hts hin3 hown hK hP 0 rfl rfl 0 (by decide) (hts (.fieldLink RX3 9 "HatReservations$Hall" "feathers" "[I") (by decide +kernel)) (fun _ h9 => h9) rfl dX3_refusalOfFeather_11 ?_
    refine lv_iload_n hx hb dX3_refusalOfFeather_14 rfl (lv_at hl 1 rfl) ?_
    refine va_iald (f := h0 u) hx hb hK hP 1 0 rfl rfl (hasGuest_in hgs c_5) dX3_refusalOfFeather_15 ?_
    refine lv_bipush (v := 9) hx hb dX3_refusalOfFeather_16 (by decide) ?_
    refine lv_icmp_lt (tgt := 25) hx hb dX3_refusalOfFeather_18 (by decide) (fun c_18 => ?_) (fun c_18 => ?_)
    · have hf := hf.trans (if_pos c_18)
      refine lv_iconst (v := 0) hx hb dX3_refusalOfFeather_25 (by decide) ?_
      exact W.iret (v := 0) hx hb hr (fun t ht hW => ⟨0, rfl, hf.symm, ht⟩) (fun _ h => by cases h) dX3_refusalOfFeather_26
    · have hf := hf.trans (if_neg c_18)
      refine lv_iconst (v := 2) hx hb dX3_refusalOfFeather_21 (by decide) ?_
      refine lv_goto (tgt := 26) hx hb dX3_refusalOfFeather_22 (by decide) ?_
      exact W.iret (v := 2) hx hb hr (fun t ht hW => ⟨2, rfl, hf.symm, ht⟩) (fun _ h => by cases h) dX3_refusalOfFeather_26
  · have hf := hf.trans (if_pos c_5)
    refine lv_iconst (v := 1) hx hb dX3_refusalOfFeather_8 (by decide) ?_
    exact W.iret (v := 1) hx hb hr (fun t ht hW => ⟨1, rfl, hf.symm, ht⟩) (fun _ h => by cases h) dX3_refusalOfFeather_9
def fX3_refusalOfHat (u : HS) (x1 : Int32) (x2 : Int32) : Int32 :=
  (if (fX3_hasGuest u x1) = 0 then 1 else (if (fX3_hasChair x2) = 0 then 1 else (if (fX3_hatIsPlaced u x1) = 0 then (if (fX3_covererAt u x2) = (-1) then 0 else 3) else 2)))
set_option maxHeartbeats 4000000 in
set_option maxRecDepth 100000 in
/-- refusalOfHat -/
theorem kX3_refusalOfHat (l : Launch) (D : va_G) (ca : Nat → ClassId) (a : Nat → Nat) (u : HS) (x1 : Int32) (x2 : Int32) (hgs : h9 u ≤ 8) : Met l yX3_refusalOfHat wsX3_refusalOfHat ({ frames := 1, cells := 0, slots := 0, locals := 22 }) (RPc D ca (HW ca a u) [.ref (a 8), .int x1, .int x2]) (vp_Si (fun r => r = fX3_refusalOfHat u x1 x2)) 0 0 (fun _ => False) := by
  refine Met.ofW (cc := cX3_refusalOfHat) (maxL := 3) (ret := (some .int)) (by decide) rfl ?_
  intro p e s m args below meth c s₁ B hml hv
  obtain ⟨rfl, hP, hK⟩ := hv
  have hx := B.exec
  have hb := B.bytes
  have hr := B.returns
  have hts := atoms_spec (ws := wsX3_refusalOfHat) B.pre
  have hown : s.vm.findClass RX3 = some m.cls := findClass_of_methodNamed B.named
  have hlocks := B.notSynchronized
  have hf : fX3_refusalOfHat u x1 x2 = fX3_refusalOfHat u x1 x2 := rfl
  refine W_entry (Nat.le_of_ble_eq_true rfl) (fun ls hl => ?_)
  have hl : lv_has ls 3 [(0, .ref (a 8)), (1, .int x1), (2, .int x2)] := hl
  refine lv_aload_n hx hb dX3_refusalOfHat_0 rfl (lv_at hl 0 rfl) ?_
  refine lv_iload_n hx hb dX3_refusalOfHat_1 rfl (lv_at hl 1 rfl) ?_
  refine hcRi (As := [.int x1]) (rest := []) 0 4 ⟨hx, hb, hml, hown, hts⟩ (kX3_hasGuest l D ca a u x1 ) (cwV 1 hts gX3_refusalOfHat_X3_hasGuest rfl rfl rfl (by decide +kernel) ⟨Nat.le_of_ble_eq_true rfl, Nat.le_of_ble_eq_true rfl⟩) hK hP rfl rfl rfl hl.1 rfl (by decide) ⟨Nat.zero_le _, Nat.zero_le _⟩ dX3_refusalOfHat_2 ?_
  refine lv_if_eq (tgt := 15) hx hb dX3_refusalOfHat_5 (by decide) (fun c_5 => ?_) (fun c_5 => ?_)
  · have hf := hf.trans (if_pos c_5)
    refine lv_iconst (v := 1) hx hb dX3_refusalOfHat_15 (by decide) ?_
    exact W.iret (v := 1) hx hb hr (fun t ht hW => ⟨1, rfl, hf.symm, ht⟩) (fun _ h => by cases h) dX3_refusalOfHat_16
  · have hf := hf.trans (if_neg c_5)
    refine lv_iload_n hx hb dX3_refusalOfHat_8 rfl (lv_at hl 2 rfl) ?_
    refine hcSi (As := [.int x2]) (rest := []) ⟨hx, hb, hml, hown, hts⟩ (kX3_hasChair l x2 ) (va_cwS 1 hts gX3_refusalOfHat_X3_hasChair rfl rfl rfl (by decide +kernel) ⟨Nat.le_of_ble_eq_true rfl, Nat.le_of_ble_eq_true rfl⟩) rfl hl.1 rfl (by decide) ⟨Nat.zero_le _, Nat.zero_le _⟩ dX3_refusalOfHat_9 ?_
    refine lv_if_ne (tgt := 17) hx hb dX3_refusalOfHat_12 (by decide) (fun c_12 => ?_) (fun c_12 => ?_)
    · have hf := hf.trans (if_neg c_12)
      refine lv_aload_n hx hb dX3_refusalOfHat_17 rfl (lv_at hl 0 rfl) ?_
      refine lv_iload_n hx hb dX3_refusalOfHat_18 rfl (lv_at hl 1 rfl) ?_
      refine hcRi (As := [.int x1]) (rest := []) 0 4 ⟨hx, hb, hml, hown, hts⟩ (kX3_hatIsPlaced l D ca a u x1 (hasGuest_in hgs c_5)) (cwV 1 hts gX3_refusalOfHat_X3_hatIsPlaced rfl rfl rfl (by decide +kernel) ⟨Nat.le_of_ble_eq_true rfl, Nat.le_of_ble_eq_true rfl⟩) hK hP rfl rfl rfl hl.1 rfl (by decide) ⟨Nat.zero_le _, Nat.zero_le _⟩ dX3_refusalOfHat_19 ?_
      refine lv_if_eq (tgt := 27) hx hb dX3_refusalOfHat_22 (by decide) (fun c_22 => ?_) (fun c_22 => ?_)
      · have hf := hf.trans (if_pos c_22)
        refine lv_aload_n hx hb dX3_refusalOfHat_27 rfl (lv_at hl 0 rfl) ?_
        refine lv_iload_n hx hb dX3_refusalOfHat_28 rfl (lv_at hl 2 rfl) ?_
        refine hcRi (As := [.int x2]) (rest := []) 0 4 ⟨hx, hb, hml, hown, hts⟩ (kX3_covererAt l D ca a u x2 ) (cwV 1 hts gX3_refusalOfHat_X3_covererAt rfl rfl rfl (by decide +kernel) ⟨Nat.le_of_ble_eq_true rfl, Nat.le_of_ble_eq_true rfl⟩) hK hP rfl rfl rfl hl.1 rfl (by decide) ⟨Nat.zero_le _, Nat.zero_le _⟩ dX3_refusalOfHat_29 ?_
        refine lv_iconst (v := (-1)) hx hb dX3_refusalOfHat_32 (by decide) ?_
        refine lv_icmp_eq (tgt := 40) hx hb dX3_refusalOfHat_33 (by decide) (fun c_33 => ?_) (fun c_33 => ?_)
        · have hf := hf.trans (if_pos c_33)
          refine lv_iconst (v := 0) hx hb dX3_refusalOfHat_40 (by decide) ?_
          exact W.iret (v := 0) hx hb hr (fun t ht hW => ⟨0, rfl, hf.symm, ht⟩) (fun _ h => by cases h) dX3_refusalOfHat_41
        · have hf := hf.trans (if_neg c_33)
          refine lv_iconst (v := 3) hx hb dX3_refusalOfHat_36 (by decide) ?_
          refine lv_goto (tgt := 41) hx hb dX3_refusalOfHat_37 (by decide) ?_
          exact W.iret (v := 3) hx hb hr (fun t ht hW => ⟨3, rfl, hf.symm, ht⟩) (fun _ h => by cases h) dX3_refusalOfHat_41
      · have hf := hf.trans (if_neg c_22)
        refine lv_iconst (v := 2) hx hb dX3_refusalOfHat_25 (by decide) ?_
        exact W.iret (v := 2) hx hb hr (fun t ht hW => ⟨2, rfl, hf.symm, ht⟩) (fun _ h => by cases h) dX3_refusalOfHat_26
    · have hf := hf.trans (if_pos c_12)
      refine lv_iconst (v := 1) hx hb dX3_refusalOfHat_15 (by decide) ?_
      exact W.iret (v := 1) hx hb hr (fun t ht hW => ⟨1, rfl, hf.symm, ht⟩) (fun _ h => by cases h) dX3_refusalOfHat_16
def fX3_refusalWithoutHat (u : HS) (x1 : Int32) : Int32 :=
  (if (fX3_hasGuest u x1) = 0 then 1 else (if (fX3_hatIsPlaced u x1) = 0 then 2 else 0))
set_option maxHeartbeats 4000000 in
set_option maxRecDepth 100000 in
/-- refusalWithoutHat -/
theorem kX3_refusalWithoutHat (l : Launch) (D : va_G) (ca : Nat → ClassId) (a : Nat → Nat) (u : HS) (x1 : Int32) (hgs : h9 u ≤ 8) : Met l yX3_refusalWithoutHat wsX3_refusalWithoutHat ({ frames := 1, cells := 0, slots := 0, locals := 21 }) (RPc D ca (HW ca a u) [.ref (a 8), .int x1]) (vp_Si (fun r => r = fX3_refusalWithoutHat u x1)) 0 0 (fun _ => False) := by
  refine Met.ofW (cc := cX3_refusalWithoutHat) (maxL := 2) (ret := (some .int)) (by decide) rfl ?_
  intro p e s m args below meth c s₁ B hml hv
  obtain ⟨rfl, hP, hK⟩ := hv
  have hx := B.exec
  have hb := B.bytes
  have hr := B.returns
  have hts := atoms_spec (ws := wsX3_refusalWithoutHat) B.pre
  have hown : s.vm.findClass RX3 = some m.cls := findClass_of_methodNamed B.named
  have hlocks := B.notSynchronized
  have hf : fX3_refusalWithoutHat u x1 = fX3_refusalWithoutHat u x1 := rfl
  refine W_entry (Nat.le_of_ble_eq_true rfl) (fun ls hl => ?_)
  have hl : lv_has ls 2 [(0, .ref (a 8)), (1, .int x1)] := hl
  refine lv_aload_n hx hb dX3_refusalWithoutHat_0 rfl (lv_at hl 0 rfl) ?_
  refine lv_iload_n hx hb dX3_refusalWithoutHat_1 rfl (lv_at hl 1 rfl) ?_
  refine hcRi (As := [.int x1]) (rest := []) 0 4 ⟨hx, hb, hml, hown, hts⟩ (kX3_hasGuest l D ca a u x1 ) (cwV 1 hts gX3_refusalWithoutHat_X3_hasGuest rfl rfl rfl (by decide +kernel) ⟨Nat.le_of_ble_eq_true rfl, Nat.le_of_ble_eq_true rfl⟩) hK hP rfl rfl rfl hl.1 rfl (by decide) ⟨Nat.zero_le _, Nat.zero_le _⟩ dX3_refusalWithoutHat_2 ?_
  refine lv_if_ne (tgt := 10) hx hb dX3_refusalWithoutHat_5 (by decide) (fun c_5 => ?_) (fun c_5 => ?_)
  · have hf := hf.trans (if_neg c_5)
    refine lv_aload_n hx hb dX3_refusalWithoutHat_10 rfl (lv_at hl 0 rfl) ?_
    refine lv_iload_n hx hb dX3_refusalWithoutHat_11 rfl (lv_at hl 1 rfl) ?_
    refine hcRi (As := [.int x1]) (rest := []) 0 4 ⟨hx, hb, hml, hown, hts⟩ (kX3_hatIsPlaced l D ca a u x1 (hasGuest_in hgs c_5)) (cwV 1 hts gX3_refusalWithoutHat_X3_hatIsPlaced rfl rfl rfl (by decide +kernel) ⟨Nat.le_of_ble_eq_true rfl, Nat.le_of_ble_eq_true rfl⟩) hK hP rfl rfl rfl hl.1 rfl (by decide) ⟨Nat.zero_le _, Nat.zero_le _⟩ dX3_refusalWithoutHat_12 ?_
    refine lv_if_eq (tgt := 22) hx hb dX3_refusalWithoutHat_15 (by decide) (fun c_15 => ?_) (fun c_15 => ?_)
    · have hf := hf.trans (if_pos c_15)
      refine lv_iconst (v := 2) hx hb dX3_refusalWithoutHat_22 (by decide) ?_
      exact W.iret (v := 2) hx hb hr (fun t ht hW => ⟨2, rfl, hf.symm, ht⟩) (fun _ h => by cases h) dX3_refusalWithoutHat_23
    · have hf := hf.trans (if_neg c_15)
      refine lv_iconst (v := 0) hx hb dX3_refusalWithoutHat_18 (by decide) ?_
      refine lv_goto (tgt := 23) hx hb dX3_refusalWithoutHat_19 (by decide) ?_
      exact W.iret (v := 0) hx hb hr (fun t ht hW => ⟨0, rfl, hf.symm, ht⟩) (fun _ h => by cases h) dX3_refusalWithoutHat_23
  · have hf := hf.trans (if_pos c_5)
    refine lv_iconst (v := 1) hx hb dX3_refusalWithoutHat_8 (by decide) ?_
    exact W.iret (v := 1) hx hb hr (fun t ht hW => ⟨1, rfl, hf.symm, ht⟩) (fun _ h => by cases h) dX3_refusalWithoutHat_9
def fX3_refusalOfCoat (u : HS) (x1 : Int32) (x2 : Int32) : Int32 :=
  (if (fX3_hasGuest u x1) = 0 then 1 else (if (fX3_hasChair x2) = 0 then 1 else (if ((h5 u) x1.toNatClampNeg) = (-1) then (if (fX3_covererAt u x2) = (-1) then 3 else (if (fX3_covererAt u x2) = x1 then 3 else (if 3 ≤ (fX3_coatsOn u x2) then 3 else 0))) else 2)))
set_option maxHeartbeats 4000000 in
set_option maxRecDepth 100000 in
/-- refusalOfCoat -/
theorem kX3_refusalOfCoat (l : Launch) (D : va_G) (ca : Nat → ClassId) (a : Nat → Nat) (u : HS) (x1 : Int32) (x2 : Int32) (hgs : h9 u ≤ 8) : Met l yX3_refusalOfCoat wsX3_refusalOfCoat ({ frames := 1, cells := 0, slots := 0, locals := 23 }) (RPc D ca (HW ca a u) [.ref (a 8), .int x1, .int x2]) (vp_Si (fun r => r = fX3_refusalOfCoat u x1 x2)) 0 0 (fun _ => False) := by
  refine Met.ofW (cc := cX3_refusalOfCoat) (maxL := 5) (ret := (some .int)) (by decide) rfl ?_
  intro p e s m args below meth c s₁ B hml hv
  obtain ⟨rfl, hP, hK⟩ := hv
  have hx := B.exec
  have hb := B.bytes
  have hr := B.returns
  have hts := atoms_spec (ws := wsX3_refusalOfCoat) B.pre
  have hown : s.vm.findClass RX3 = some m.cls := findClass_of_methodNamed B.named
  have hlocks := B.notSynchronized
  have hin3 : ∀ w ∈ wsX30, w ∈ wsX3_refusalOfCoat := by decide +kernel
  have hf : fX3_refusalOfCoat u x1 x2 = fX3_refusalOfCoat u x1 x2 := rfl
  refine W_entry (Nat.le_of_ble_eq_true rfl) (fun ls hl => ?_)
  have hl : lv_has ls 5 [(0, .ref (a 8)), (1, .int x1), (2, .int x2)] := hl
  refine lv_aload_n hx hb dX3_refusalOfCoat_0 rfl (lv_at hl 0 rfl) ?_
  refine lv_iload_n hx hb dX3_refusalOfCoat_1 rfl (lv_at hl 1 rfl) ?_
  refine hcRi (As := [.int x1]) (rest := []) 0 4 ⟨hx, hb, hml, hown, hts⟩ (kX3_hasGuest l D ca a u x1 ) (cwV 1 hts gX3_refusalOfCoat_X3_hasGuest rfl rfl rfl (by decide +kernel) ⟨Nat.le_of_ble_eq_true rfl, Nat.le_of_ble_eq_true rfl⟩) hK hP rfl rfl rfl hl.1 rfl (by decide) ⟨Nat.zero_le _, Nat.zero_le _⟩ dX3_refusalOfCoat_2 ?_
  refine lv_if_eq (tgt := 15) hx hb dX3_refusalOfCoat_5 (by decide) (fun c_5 => ?_) (fun c_5 => ?_)
  · have hf := hf.trans (if_pos c_5)
    refine lv_iconst (v := 1) hx hb dX3_refusalOfCoat_15 (by decide) ?_
    exact W.iret (v := 1) hx hb hr (fun t ht hW => ⟨1, rfl, hf.symm, ht⟩) (fun _ h => by cases h) dX3_refusalOfCoat_16
  · have hf := hf.trans (if_neg c_5)
    refine lv_iload_n hx hb dX3_refusalOfCoat_8 rfl (lv_at hl 2 rfl) ?_
    refine hcSi (As := [.int x2]) (rest := []) ⟨hx, hb, hml, hown, hts⟩ (kX3_hasChair l x2 ) (va_cwS 1 hts gX3_refusalOfCoat_X3_hasChair rfl rfl rfl (by decide +kernel) ⟨Nat.le_of_ble_eq_true rfl, Nat.le_of_ble_eq_true rfl⟩) rfl hl.1 rfl (by decide) ⟨Nat.zero_le _, Nat.zero_le _⟩ dX3_refusalOfCoat_9 ?_
    refine lv_if_ne (tgt := 17) hx hb dX3_refusalOfCoat_12 (by decide) (fun c_12 => ?_) (fun c_12 => ?_)
    · have hf := hf.trans (if_neg c_12)
      refine lv_aload_n hx hb dX3_refusalOfCoat_17 rfl (lv_at hl 0 rfl) ?_
      refine va_get (D := D) (ci := 4) (v := .ref (a 5)) (C := RX3) (T := TX3) (N := 15) hx hb hts hin3 hown hK hP 0 rfl rfl 5 (by decide) (hts (.fieldLink RX3 28 "HatReservations$Hall" "coatChairs" "[I") (by decide +kernel)) (fun _ h9 => h9) rfl dX3_refusalOfCoat_18 ?_
      refine lv_iload_n hx hb dX3_refusalOfCoat_21 rfl (lv_at hl 1 rfl) ?_
      refine va_iald (f := h5 u) hx hb hK hP 6 0 rfl rfl (hasGuest_in hgs c_5) dX3_refusalOfCoat_22 ?_
      refine lv_iconst (v := (-1)) hx hb dX3_refusalOfCoat_23 (by decide) ?_
      refine lv_icmp_eq (tgt := 29) hx hb dX3_refusalOfCoat_24 (by decide) (fun c_24 => ?_) (fun c_24 => ?_)
      · have hf := hf.trans (if_pos c_24)
        refine lv_aload_n hx hb dX3_refusalOfCoat_29 rfl (lv_at hl 0 rfl) ?_
        refine lv_iload_n hx hb dX3_refusalOfCoat_30 rfl (lv_at hl 2 rfl) ?_
        refine hcRi (As := [.int x2]) (rest := []) 0 4 ⟨hx, hb, hml, hown, hts⟩ (kX3_covererAt l D ca a u x2 ) (cwV 1 hts gX3_refusalOfCoat_X3_covererAt rfl rfl rfl (by decide +kernel) ⟨Nat.le_of_ble_eq_true rfl, Nat.le_of_ble_eq_true rfl⟩) hK hP rfl rfl rfl hl.1 rfl (by decide) ⟨Nat.zero_le _, Nat.zero_le _⟩ dX3_refusalOfCoat_31 ?_
        refine lv_istore_n (lv' := [(3, .int (fX3_covererAt u x2)), (0, .ref (a 8)), (1, .int x1), (2, .int x2)]) hx hb dX3_refusalOfCoat_34 rfl hl (by decide) rfl (fun ls hl => ?_)
        refine lv_iload_n hx hb dX3_refusalOfCoat_35 rfl (lv_at hl 0 rfl) ?_
        refine lv_iconst (v := (-1)) hx hb dX3_refusalOfCoat_36 (by decide) ?_
        refine lv_icmp_eq (tgt := 49) hx hb dX3_refusalOfCoat_37 (by decide) (fun c_37 => ?_) (fun c_37 => ?_)
        · have hf := hf.trans (if_pos c_37)
          refine lv_iconst (v := 0) hx hb dX3_refusalOfCoat_49 (by decide) ?_
          refine lv_istore (lv' := [(4, .int 0), (3, .int (fX3_covererAt u x2)), (0, .ref (a 8)), (1, .int x1), (2, .int x2)]) hx hb dX3_refusalOfCoat_50 hl (by decide) rfl (fun ls hl => ?_)
          refine lv_iload hx hb dX3_refusalOfCoat_52 (lv_at hl 0 rfl) ?_
          refine lv_if_eq (tgt := 70) hx hb dX3_refusalOfCoat_54 (by decide) (fun _ => ?_) (fun q => absurd (by decide) q)
          refine lv_iconst (v := 3) hx hb dX3_refusalOfCoat_70 (by decide) ?_
          exact W.iret (v := 3) hx hb hr (fun t ht hW => ⟨3, rfl, hf.symm, ht⟩) (fun _ h => by cases h) dX3_refusalOfCoat_71
        · have hf := hf.trans (if_neg c_37)
          refine lv_iload_n hx hb dX3_refusalOfCoat_40 rfl (lv_at hl 0 rfl) ?_
          refine lv_iload_n hx hb dX3_refusalOfCoat_41 rfl (lv_at hl 2 rfl) ?_
          refine lv_icmp_eq (tgt := 49) hx hb dX3_refusalOfCoat_42 (by decide) (fun c_42 => ?_) (fun c_42 => ?_)
          · have hf := hf.trans (if_pos c_42)
            refine lv_iconst (v := 0) hx hb dX3_refusalOfCoat_49 (by decide) ?_
            refine lv_istore (lv' := [(4, .int 0), (3, .int (fX3_covererAt u x2)), (0, .ref (a 8)), (1, .int x1), (2, .int x2)]) hx hb dX3_refusalOfCoat_50 hl (by decide) rfl (fun ls hl => ?_)
            refine lv_iload hx hb dX3_refusalOfCoat_52 (lv_at hl 0 rfl) ?_
            refine lv_if_eq (tgt := 70) hx hb dX3_refusalOfCoat_54 (by decide) (fun _ => ?_) (fun q => absurd (by decide) q)
            refine lv_iconst (v := 3) hx hb dX3_refusalOfCoat_70 (by decide) ?_
            exact W.iret (v := 3) hx hb hr (fun t ht hW => ⟨3, rfl, hf.symm, ht⟩) (fun _ h => by cases h) dX3_refusalOfCoat_71
          · have hf := hf.trans (if_neg c_42)
            refine lv_iconst (v := 1) hx hb dX3_refusalOfCoat_45 (by decide) ?_
            refine lv_goto (tgt := 50) hx hb dX3_refusalOfCoat_46 (by decide) ?_
            refine lv_istore (lv' := [(4, .int 1), (3, .int (fX3_covererAt u x2)), (0, .ref (a 8)), (1, .int x1), (2, .int x2)]) hx hb dX3_refusalOfCoat_50 hl (by decide) rfl (fun ls hl => ?_)
            refine lv_iload hx hb dX3_refusalOfCoat_52 (lv_at hl 0 rfl) ?_
            refine lv_if_eq (tgt := 70) hx hb dX3_refusalOfCoat_54 (by decide) (fun q => absurd q (by decide)) (fun _ => ?_)
            refine lv_aload_n hx hb dX3_refusalOfCoat_57 rfl (lv_at hl 2 rfl) ?_
            refine lv_iload_n hx hb dX3_refusalOfCoat_58 rfl (lv_at hl 4 rfl) ?_
            refine hcRi (As := [.int x2]) (rest := []) 0 4 ⟨hx, hb, hml, hown, hts⟩ (kX3_coatsOn l D ca a u x2 ) (cwV 1 hts gX3_refusalOfCoat_X3_coatsOn rfl rfl rfl (by decide +kernel) ⟨Nat.le_of_ble_eq_true rfl, Nat.le_of_ble_eq_true rfl⟩) hK hP rfl rfl rfl hl.1 rfl (by decide) ⟨Nat.zero_le _, Nat.zero_le _⟩ dX3_refusalOfCoat_59 ?_
            refine lv_iconst (v := 3) hx hb dX3_refusalOfCoat_62 (by decide) ?_
            refine lv_icmp_ge (tgt := 70) hx hb dX3_refusalOfCoat_63 (by decide) (fun c_63 => ?_) (fun c_63 => ?_)
            · have hf := hf.trans (if_pos c_63)
              refine lv_iconst (v := 3) hx hb dX3_refusalOfCoat_70 (by decide) ?_
              exact W.iret (v := 3) hx hb hr (fun t ht hW => ⟨3, rfl, hf.symm, ht⟩) (fun _ h => by cases h) dX3_refusalOfCoat_71
            · have hf := hf.trans (if_neg c_63)
              refine lv_iconst (v := 0) hx hb dX3_refusalOfCoat_66 (by decide) ?_
              refine lv_goto (tgt := 71) hx hb dX3_refusalOfCoat_67 (by decide) ?_
              exact W.iret (v := 0) hx hb hr (fun t ht hW => ⟨0, rfl, hf.symm, ht⟩) (fun _ h => by cases h) dX3_refusalOfCoat_71
      · have hf := hf.trans (if_neg c_24)
        refine lv_iconst (v := 2) hx hb dX3_refusalOfCoat_27 (by decide) ?_
        exact W.iret (v := 2) hx hb hr (fun t ht hW => ⟨2, rfl, hf.symm, ht⟩) (fun _ h => by cases h) dX3_refusalOfCoat_28
    · have hf := hf.trans (if_pos c_12)
      refine lv_iconst (v := 1) hx hb dX3_refusalOfCoat_15 (by decide) ?_
      exact W.iret (v := 1) hx hb hr (fun t ht hW => ⟨1, rfl, hf.symm, ht⟩) (fun _ h => by cases h) dX3_refusalOfCoat_16
def fX3_refusalWithoutCoat (u : HS) (x1 : Int32) : Int32 :=
  (if (fX3_hasGuest u x1) = 0 then 1 else (if ((h5 u) x1.toNatClampNeg) = (-1) then 2 else 0))
set_option maxHeartbeats 4000000 in
set_option maxRecDepth 100000 in
/-- refusalWithoutCoat -/
theorem kX3_refusalWithoutCoat (l : Launch) (D : va_G) (ca : Nat → ClassId) (a : Nat → Nat) (u : HS) (x1 : Int32) (hgs : h9 u ≤ 8) : Met l yX3_refusalWithoutCoat wsX3_refusalWithoutCoat ({ frames := 1, cells := 0, slots := 0, locals := 21 }) (RPc D ca (HW ca a u) [.ref (a 8), .int x1]) (vp_Si (fun r => r = fX3_refusalWithoutCoat u x1)) 0 0 (fun _ => False) := by
  refine Met.ofW (cc := cX3_refusalWithoutCoat) (maxL := 2) (ret := (some .int)) (by decide) rfl ?_
  intro p e s m args below meth c s₁ B hml hv
  obtain ⟨rfl, hP, hK⟩ := hv
  have hx := B.exec
  have hb := B.bytes
  have hr := B.returns
  have hts := atoms_spec (ws := wsX3_refusalWithoutCoat) B.pre
  have hown : s.vm.findClass RX3 = some m.cls := findClass_of_methodNamed B.named
  have hlocks := B.notSynchronized
  have hin3 : ∀ w ∈ wsX30, w ∈ wsX3_refusalWithoutCoat := by decide +kernel
  have hf : fX3_refusalWithoutCoat u x1 = fX3_refusalWithoutCoat u x1 := rfl
  refine W_entry (Nat.le_of_ble_eq_true rfl) (fun ls hl => ?_)
  have hl : lv_has ls 2 [(0, .ref (a 8)), (1, .int x1)] := hl
  refine lv_aload_n hx hb dX3_refusalWithoutCoat_0 rfl (lv_at hl 0 rfl) ?_
  refine lv_iload_n hx hb dX3_refusalWithoutCoat_1 rfl (lv_at hl 1 rfl) ?_
  refine hcRi (As := [.int x1]) (rest := []) 0 4 ⟨hx, hb, hml, hown, hts⟩ (kX3_hasGuest l D ca a u x1 ) (cwV 1 hts gX3_refusalWithoutCoat_X3_hasGuest rfl rfl rfl (by decide +kernel) ⟨Nat.le_of_ble_eq_true rfl, Nat.le_of_ble_eq_true rfl⟩) hK hP rfl rfl rfl hl.1 rfl (by decide) ⟨Nat.zero_le _, Nat.zero_le _⟩ dX3_refusalWithoutCoat_2 ?_
  refine lv_if_ne (tgt := 10) hx hb dX3_refusalWithoutCoat_5 (by decide) (fun c_5 => ?_) (fun c_5 => ?_)
  · have hf := hf.trans (if_neg c_5)
    refine lv_aload_n hx hb dX3_refusalWithoutCoat_10 rfl (lv_at hl 0 rfl) ?_
    refine va_get (D := D) (ci := 4) (v := .ref (a 5)) (C := RX3) (T := TX3) (N := 15) hx hb hts hin3 hown hK hP 0 rfl rfl 5 (by decide) (hts (.fieldLink RX3 28 "HatReservations$Hall" "coatChairs" "[I") (by decide +kernel)) (fun _ h9 => h9) rfl dX3_refusalWithoutCoat_11 ?_
    refine lv_iload_n hx hb dX3_refusalWithoutCoat_14 rfl (lv_at hl 1 rfl) ?_
    refine va_iald (f := h5 u) hx hb hK hP 6 0 rfl rfl (hasGuest_in hgs c_5) dX3_refusalWithoutCoat_15 ?_
    refine lv_iconst (v := (-1)) hx hb dX3_refusalWithoutCoat_16 (by decide) ?_
    refine lv_icmp_ne (tgt := 24) hx hb dX3_refusalWithoutCoat_17 (by decide) (fun c_17 => ?_) (fun c_17 => ?_)
    · have hf := hf.trans (if_neg c_17)
      refine lv_iconst (v := 0) hx hb dX3_refusalWithoutCoat_24 (by decide) ?_
      exact W.iret (v := 0) hx hb hr (fun t ht hW => ⟨0, rfl, hf.symm, ht⟩) (fun _ h => by cases h) dX3_refusalWithoutCoat_25
    · have hf := hf.trans (if_pos c_17)
      refine lv_iconst (v := 2) hx hb dX3_refusalWithoutCoat_20 (by decide) ?_
      refine lv_goto (tgt := 25) hx hb dX3_refusalWithoutCoat_21 (by decide) ?_
      exact W.iret (v := 2) hx hb hr (fun t ht hW => ⟨2, rfl, hf.symm, ht⟩) (fun _ h => by cases h) dX3_refusalWithoutCoat_25
  · have hf := hf.trans (if_pos c_5)
    refine lv_iconst (v := 1) hx hb dX3_refusalWithoutCoat_8 (by decide) ?_
    exact W.iret (v := 1) hx hb hr (fun t ht hW => ⟨1, rfl, hf.symm, ht⟩) (fun _ h => by cases h) dX3_refusalWithoutCoat_9
def fX3_refusalOfContest (u : HS) (x1 : Int32) (x2 : Int32) : Int32 :=
  (if (fX3_hasGuest u x1) = 0 then 1 else (if (fX3_hasChair x2) = 0 then 1 else (if (fX3_covererAt u x2) = (-1) then 2 else (if (fX3_hatIsPlaced u x1) = 0 then 0 else 3))))
set_option maxHeartbeats 4000000 in
set_option maxRecDepth 100000 in
/-- refusalOfContest -/
theorem kX3_refusalOfContest (l : Launch) (D : va_G) (ca : Nat → ClassId) (a : Nat → Nat) (u : HS) (x1 : Int32) (x2 : Int32) (hgs : h9 u ≤ 8) : Met l yX3_refusalOfContest wsX3_refusalOfContest ({ frames := 1, cells := 0, slots := 0, locals := 22 }) (RPc D ca (HW ca a u) [.ref (a 8), .int x1, .int x2]) (vp_Si (fun r => r = fX3_refusalOfContest u x1 x2)) 0 0 (fun _ => False) := by
  refine Met.ofW (cc := cX3_refusalOfContest) (maxL := 3) (ret := (some .int)) (by decide) rfl ?_
  intro p e s m args below meth c s₁ B hml hv
  obtain ⟨rfl, hP, hK⟩ := hv
  have hx := B.exec
  have hb := B.bytes
  have hr := B.returns
  have hts := atoms_spec (ws := wsX3_refusalOfContest) B.pre
  have hown : s.vm.findClass RX3 = some m.cls := findClass_of_methodNamed B.named
  have hlocks := B.notSynchronized
  have hf : fX3_refusalOfContest u x1 x2 = fX3_refusalOfContest u x1 x2 := rfl
  refine W_entry (Nat.le_of_ble_eq_true rfl) (fun ls hl => ?_)
  have hl : lv_has ls 3 [(0, .ref (a 8)), (1, .int x1), (2, .int x2)] := hl
  refine lv_aload_n hx hb dX3_refusalOfContest_0 rfl (lv_at hl 0 rfl) ?_
  refine lv_iload_n hx hb dX3_refusalOfContest_1 rfl (lv_at hl 1 rfl) ?_
  refine hcRi (As := [.int x1]) (rest := []) 0 4 ⟨hx, hb, hml, hown, hts⟩ (kX3_hasGuest l D ca a u x1 ) (cwV 1 hts gX3_refusalOfContest_X3_hasGuest rfl rfl rfl (by decide +kernel) ⟨Nat.le_of_ble_eq_true rfl, Nat.le_of_ble_eq_true rfl⟩) hK hP rfl rfl rfl hl.1 rfl (by decide) ⟨Nat.zero_le _, Nat.zero_le _⟩ dX3_refusalOfContest_2 ?_
  refine lv_if_eq (tgt := 15) hx hb dX3_refusalOfContest_5 (by decide) (fun c_5 => ?_) (fun c_5 => ?_)
  · have hf := hf.trans (if_pos c_5)
    refine lv_iconst (v := 1) hx hb dX3_refusalOfContest_15 (by decide) ?_
    exact W.iret (v := 1) hx hb hr (fun t ht hW => ⟨1, rfl, hf.symm, ht⟩) (fun _ h => by cases h) dX3_refusalOfContest_16
  · have hf := hf.trans (if_neg c_5)
    refine lv_iload_n hx hb dX3_refusalOfContest_8 rfl (lv_at hl 2 rfl) ?_
    refine hcSi (As := [.int x2]) (rest := []) ⟨hx, hb, hml, hown, hts⟩ (kX3_hasChair l x2 ) (va_cwS 1 hts gX3_refusalOfContest_X3_hasChair rfl rfl rfl (by decide +kernel) ⟨Nat.le_of_ble_eq_true rfl, Nat.le_of_ble_eq_true rfl⟩) rfl hl.1 rfl (by decide) ⟨Nat.zero_le _, Nat.zero_le _⟩ dX3_refusalOfContest_9 ?_
    refine lv_if_ne (tgt := 17) hx hb dX3_refusalOfContest_12 (by decide) (fun c_12 => ?_) (fun c_12 => ?_)
    · have hf := hf.trans (if_neg c_12)
      refine lv_aload_n hx hb dX3_refusalOfContest_17 rfl (lv_at hl 0 rfl) ?_
      refine lv_iload_n hx hb dX3_refusalOfContest_18 rfl (lv_at hl 2 rfl) ?_
      refine hcRi (As := [.int x2]) (rest := []) 0 4 ⟨hx, hb, hml, hown, hts⟩ (kX3_covererAt l D ca a u x2 ) (cwV 1 hts gX3_refusalOfContest_X3_covererAt rfl rfl rfl (by decide +kernel) ⟨Nat.le_of_ble_eq_true rfl, Nat.le_of_ble_eq_true rfl⟩) hK hP rfl rfl rfl hl.1 rfl (by decide) ⟨Nat.zero_le _, Nat.zero_le _⟩ dX3_refusalOfContest_19 ?_
      refine lv_iconst (v := (-1)) hx hb dX3_refusalOfContest_22 (by decide) ?_
      refine lv_icmp_ne (tgt := 28) hx hb dX3_refusalOfContest_23 (by decide) (fun c_23 => ?_) (fun c_23 => ?_)
      · have hf := hf.trans (if_neg c_23)
        refine lv_aload_n hx hb dX3_refusalOfContest_28 rfl (lv_at hl 0 rfl) ?_
        refine lv_iload_n hx hb dX3_refusalOfContest_29 rfl (lv_at hl 1 rfl) ?_
        refine hcRi (As := [.int x1]) (rest := []) 0 4 ⟨hx, hb, hml, hown, hts⟩ (kX3_hatIsPlaced l D ca a u x1 (hasGuest_in hgs c_5)) (cwV 1 hts gX3_refusalOfContest_X3_hatIsPlaced rfl rfl rfl (by decide +kernel) ⟨Nat.le_of_ble_eq_true rfl, Nat.le_of_ble_eq_true rfl⟩) hK hP rfl rfl rfl hl.1 rfl (by decide) ⟨Nat.zero_le _, Nat.zero_le _⟩ dX3_refusalOfContest_30 ?_
        refine lv_if_eq (tgt := 40) hx hb dX3_refusalOfContest_33 (by decide) (fun c_33 => ?_) (fun c_33 => ?_)
        · have hf := hf.trans (if_pos c_33)
          refine lv_iconst (v := 0) hx hb dX3_refusalOfContest_40 (by decide) ?_
          exact W.iret (v := 0) hx hb hr (fun t ht hW => ⟨0, rfl, hf.symm, ht⟩) (fun _ h => by cases h) dX3_refusalOfContest_41
        · have hf := hf.trans (if_neg c_33)
          refine lv_iconst (v := 3) hx hb dX3_refusalOfContest_36 (by decide) ?_
          refine lv_goto (tgt := 41) hx hb dX3_refusalOfContest_37 (by decide) ?_
          exact W.iret (v := 3) hx hb hr (fun t ht hW => ⟨3, rfl, hf.symm, ht⟩) (fun _ h => by cases h) dX3_refusalOfContest_41
      · have hf := hf.trans (if_pos c_23)
        refine lv_iconst (v := 2) hx hb dX3_refusalOfContest_26 (by decide) ?_
        exact W.iret (v := 2) hx hb hr (fun t ht hW => ⟨2, rfl, hf.symm, ht⟩) (fun _ h => by cases h) dX3_refusalOfContest_27
    · have hf := hf.trans (if_pos c_12)
      refine lv_iconst (v := 1) hx hb dX3_refusalOfContest_15 (by decide) ?_
      exact W.iret (v := 1) hx hb hr (fun t ht hW => ⟨1, rfl, hf.symm, ht⟩) (fun _ h => by cases h) dX3_refusalOfContest_16
def fX3_refusalOfPass (u : HS) (x1 : Int32) : Int32 :=
  (if x1 < 1 then 1 else (if x1 ≤ 60 then 0 else 1))
set_option maxHeartbeats 4000000 in
set_option maxRecDepth 100000 in
/-- refusalOfPass -/
theorem kX3_refusalOfPass (l : Launch) (D : va_G) (ca : Nat → ClassId) (a : Nat → Nat) (u : HS) (x1 : Int32) : Met l yX3_refusalOfPass wsX3_refusalOfPass ({ frames := 0, cells := 0, slots := 0, locals := 0 }) (RPc D ca (HW ca a u) [.ref (a 8), .int x1]) (vp_Si (fun r => r = fX3_refusalOfPass u x1)) 0 0 (fun _ => False) := by
  refine Met.ofW (cc := cX3_refusalOfPass) (maxL := 2) (ret := (some .int)) (by decide) rfl ?_
  intro p e s m args below meth c s₁ B hml hv
  obtain ⟨rfl, hP, hK⟩ := hv
  have hx := B.exec
  have hb := B.bytes
  have hr := B.returns
  have hts := atoms_spec (ws := wsX3_refusalOfPass) B.pre
  have hown : s.vm.findClass RX3 = some m.cls := findClass_of_methodNamed B.named
  have hlocks := B.notSynchronized
  have hf : fX3_refusalOfPass u x1 = fX3_refusalOfPass u x1 := rfl
  refine W_entry (Nat.le_of_ble_eq_true rfl) (fun ls hl => ?_)
  have hl : lv_has ls 2 [(0, .ref (a 8)), (1, .int x1)] := hl
  refine lv_iload_n hx hb dX3_refusalOfPass_0 rfl (lv_at hl 1 rfl) ?_
  refine lv_iconst (v := 1) hx hb dX3_refusalOfPass_1 (by decide) ?_
  refine lv_icmp_lt (tgt := 11) hx hb dX3_refusalOfPass_2 (by decide) (fun c_2 => ?_) (fun c_2 => ?_)
  · have hf := hf.trans (if_pos c_2)
    refine lv_iconst (v := 1) hx hb dX3_refusalOfPass_11 (by decide) ?_
    refine lv_goto (tgt := 16) hx hb dX3_refusalOfPass_12 (by decide) ?_
    exact W.iret (v := 1) hx hb hr (fun t ht hW => ⟨1, rfl, hf.symm, ht⟩) (fun _ h => by cases h) dX3_refusalOfPass_16
  · have hf := hf.trans (if_neg c_2)
    refine lv_iload_n hx hb dX3_refusalOfPass_5 rfl (lv_at hl 1 rfl) ?_
    refine lv_bipush (v := 60) hx hb dX3_refusalOfPass_6 (by decide) ?_
    refine lv_icmp_le (tgt := 15) hx hb dX3_refusalOfPass_8 (by decide) (fun c_8 => ?_) (fun c_8 => ?_)
    · have hf := hf.trans (if_pos c_8)
      refine lv_iconst (v := 0) hx hb dX3_refusalOfPass_15 (by decide) ?_
      exact W.iret (v := 0) hx hb hr (fun t ht hW => ⟨0, rfl, hf.symm, ht⟩) (fun _ h => by cases h) dX3_refusalOfPass_16
    · have hf := hf.trans (if_neg c_8)
      refine lv_iconst (v := 1) hx hb dX3_refusalOfPass_11 (by decide) ?_
      refine lv_goto (tgt := 16) hx hb dX3_refusalOfPass_12 (by decide) ?_
      exact W.iret (v := 1) hx hb hr (fun t ht hW => ⟨1, rfl, hf.symm, ht⟩) (fun _ h => by cases h) dX3_refusalOfPass_16
def fX3_refusalOfSweep (u : HS) (x1 : Int32) : Int32 :=
  (if x1 < 1 then 1 else (if x1 ≤ 240 then 0 else 1))
set_option maxHeartbeats 4000000 in
set_option maxRecDepth 100000 in
/-- refusalOfSweep -/
theorem kX3_refusalOfSweep (l : Launch) (D : va_G) (ca : Nat → ClassId) (a : Nat → Nat) (u : HS) (x1 : Int32) : Met l yX3_refusalOfSweep wsX3_refusalOfSweep ({ frames := 0, cells := 0, slots := 0, locals := 0 }) (RPc D ca (HW ca a u) [.ref (a 8), .int x1]) (vp_Si (fun r => r = fX3_refusalOfSweep u x1)) 0 0 (fun _ => False) := by
  refine Met.ofW (cc := cX3_refusalOfSweep) (maxL := 2) (ret := (some .int)) (by decide) rfl ?_
  intro p e s m args below meth c s₁ B hml hv
  obtain ⟨rfl, hP, hK⟩ := hv
  have hx := B.exec
  have hb := B.bytes
  have hr := B.returns
  have hts := atoms_spec (ws := wsX3_refusalOfSweep) B.pre
  have hown : s.vm.findClass RX3 = some m.cls := findClass_of_methodNamed B.named
  have hlocks := B.notSynchronized
  have hf : fX3_refusalOfSweep u x1 = fX3_refusalOfSweep u x1 := rfl
  refine W_entry (Nat.le_of_ble_eq_true rfl) (fun ls hl => ?_)
  have hl : lv_has ls 2 [(0, .ref (a 8)), (1, .int x1)] := hl
  refine lv_iload_n hx hb dX3_refusalOfSweep_0 rfl (lv_at hl 1 rfl) ?_
  refine lv_iconst (v := 1) hx hb dX3_refusalOfSweep_1 (by decide) ?_
  refine lv_icmp_lt (tgt := 12) hx hb dX3_refusalOfSweep_2 (by decide) (fun c_2 => ?_) (fun c_2 => ?_)
  · have hf := hf.trans (if_pos c_2)
    refine lv_iconst (v := 1) hx hb dX3_refusalOfSweep_12 (by decide) ?_
    refine lv_goto (tgt := 17) hx hb dX3_refusalOfSweep_13 (by decide) ?_
    exact W.iret (v := 1) hx hb hr (fun t ht hW => ⟨1, rfl, hf.symm, ht⟩) (fun _ h => by cases h) dX3_refusalOfSweep_17
  · have hf := hf.trans (if_neg c_2)
    refine lv_iload_n hx hb dX3_refusalOfSweep_5 rfl (lv_at hl 1 rfl) ?_
    refine lv_sipush (v := 240) hx hb dX3_refusalOfSweep_6 (by decide) ?_
    refine lv_icmp_le (tgt := 16) hx hb dX3_refusalOfSweep_9 (by decide) (fun c_9 => ?_) (fun c_9 => ?_)
    · have hf := hf.trans (if_pos c_9)
      refine lv_iconst (v := 0) hx hb dX3_refusalOfSweep_16 (by decide) ?_
      exact W.iret (v := 0) hx hb hr (fun t ht hW => ⟨0, rfl, hf.symm, ht⟩) (fun _ h => by cases h) dX3_refusalOfSweep_17
    · have hf := hf.trans (if_neg c_9)
      refine lv_iconst (v := 1) hx hb dX3_refusalOfSweep_12 (by decide) ?_
      refine lv_goto (tgt := 17) hx hb dX3_refusalOfSweep_13 (by decide) ?_
      exact W.iret (v := 1) hx hb hr (fun t ht hW => ⟨1, rfl, hf.symm, ht⟩) (fun _ h => by cases h) dX3_refusalOfSweep_17
end
