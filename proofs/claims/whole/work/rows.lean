section
-- ===== PART A: goes FIRST, ahead of the names: the tables' words, and 'selects' of the private methods out of them =====
/-- a private method of a class that the tables say can be made, by its rows of tables_1 -/
def lw_okq (q : MethodName × Nat) : Prop := (q.1.cls ≠ "java/lang/invoke/MethodHandle" ∧ q.1.cls ≠ "java/lang/invoke/VarHandle") ∧ Cond.instantiable q.1.cls q.2 ∈ tables_1 ∧ Cond.privateMethod q.1 ∈ tables_1 ∧ Cond.instanceMethod q.1 ∈ tables_1
theorem lw_p0 : lw_okq (⟨"FifthBeats", "costWithWolf", "(I)I"⟩, 2) := ⟨⟨by decide +kernel, by decide +kernel⟩, List.mem_of_getElem? (i := 13) (by decide +kernel), List.mem_of_getElem? (i := 79) (by decide +kernel), List.mem_of_getElem? (i := 80) (by decide +kernel)⟩
theorem lw_p1 : lw_okq (⟨"FifthBeats", "startTrial", "()V"⟩, 2) := ⟨⟨by decide +kernel, by decide +kernel⟩, List.mem_of_getElem? (i := 13) (by decide +kernel), List.mem_of_getElem? (i := 83) (by decide +kernel), List.mem_of_getElem? (i := 84) (by decide +kernel)⟩
theorem lw_p2 : lw_okq (⟨"FifthBeats", "costWithTuned", "(I)I"⟩, 2) := ⟨⟨by decide +kernel, by decide +kernel⟩, List.mem_of_getElem? (i := 13) (by decide +kernel), List.mem_of_getElem? (i := 118) (by decide +kernel), List.mem_of_getElem? (i := 119) (by decide +kernel)⟩
theorem lw_p3 : lw_okq (⟨"java/lang/Throwable", "fillInStackTrace", "(I)Ljava/lang/Throwable;"⟩, 6) := ⟨⟨by decide +kernel, by decide +kernel⟩, List.mem_of_getElem? (i := 264) (by decide +kernel), List.mem_of_getElem? (i := 262) (by decide +kernel), List.mem_of_getElem? (i := 263) (by decide +kernel)⟩
theorem lw_p4 : lw_okq (⟨"FifthBeats", "checkNotWolf", "(I)V"⟩, 2) := ⟨⟨by decide +kernel, by decide +kernel⟩, List.mem_of_getElem? (i := 13) (by decide +kernel), List.mem_of_getElem? (i := 313) (by decide +kernel), List.mem_of_getElem? (i := 314) (by decide +kernel)⟩
theorem lw_p5 : lw_okq (⟨"FifthBeats", "costWithNarrow", "(II)I"⟩, 2) := ⟨⟨by decide +kernel, by decide +kernel⟩, List.mem_of_getElem? (i := 13) (by decide +kernel), List.mem_of_getElem? (i := 484) (by decide +kernel), List.mem_of_getElem? (i := 485) (by decide +kernel)⟩
theorem lw_p6 : lw_okq (⟨"FifthBeatsModel", "no", "(I)I"⟩, 7) := ⟨⟨by decide +kernel, by decide +kernel⟩, List.mem_of_getElem? (i := 488) (by decide +kernel), List.mem_of_getElem? (i := 530) (by decide +kernel), List.mem_of_getElem? (i := 531) (by decide +kernel)⟩
theorem lw_p7 : lw_okq (⟨"FifthBeatsModel", "shiftTo", "(I)V"⟩, 7) := ⟨⟨by decide +kernel, by decide +kernel⟩, List.mem_of_getElem? (i := 488) (by decide +kernel), List.mem_of_getElem? (i := 538) (by decide +kernel), List.mem_of_getElem? (i := 539) (by decide +kernel)⟩
theorem lw_p8 : lw_okq (⟨"FifthBeatsModel", "planOf", "(I)I"⟩, 7) := ⟨⟨by decide +kernel, by decide +kernel⟩, List.mem_of_getElem? (i := 488) (by decide +kernel), List.mem_of_getElem? (i := 542) (by decide +kernel), List.mem_of_getElem? (i := 543) (by decide +kernel)⟩
theorem lw_p9 : lw_okq (⟨"FifthBeatsModel", "canTune", "(I)Z"⟩, 7) := ⟨⟨by decide +kernel, by decide +kernel⟩, List.mem_of_getElem? (i := 488) (by decide +kernel), List.mem_of_getElem? (i := 562) (by decide +kernel), List.mem_of_getElem? (i := 563) (by decide +kernel)⟩
theorem lw_p10 : lw_okq (⟨"FifthBeatsModel", "tuned", "(I)I"⟩, 7) := ⟨⟨by decide +kernel, by decide +kernel⟩, List.mem_of_getElem? (i := 488) (by decide +kernel), List.mem_of_getElem? (i := 569) (by decide +kernel), List.mem_of_getElem? (i := 570) (by decide +kernel)⟩
theorem lw_p11 : lw_okq (⟨"FifthBeatsModel", "majorOff", "(I)I"⟩, 7) := ⟨⟨by decide +kernel, by decide +kernel⟩, List.mem_of_getElem? (i := 488) (by decide +kernel), List.mem_of_getElem? (i := 581) (by decide +kernel), List.mem_of_getElem? (i := 582) (by decide +kernel)⟩
theorem lw_p12 : lw_okq (⟨"FifthBeatsModel", "narrow", "(II)I"⟩, 7) := ⟨⟨by decide +kernel, by decide +kernel⟩, List.mem_of_getElem? (i := 488) (by decide +kernel), List.mem_of_getElem? (i := 585) (by decide +kernel), List.mem_of_getElem? (i := 586) (by decide +kernel)⟩
theorem lw_p13 : lw_okq (⟨"FifthBeatsModel", "offOf", "(I)I"⟩, 7) := ⟨⟨by decide +kernel, by decide +kernel⟩, List.mem_of_getElem? (i := 488) (by decide +kernel), List.mem_of_getElem? (i := 589) (by decide +kernel), List.mem_of_getElem? (i := 590) (by decide +kernel)⟩
theorem lw_p14 : lw_okq (⟨"FifthBeatsModel", "pass", "()V"⟩, 7) := ⟨⟨by decide +kernel, by decide +kernel⟩, List.mem_of_getElem? (i := 488) (by decide +kernel), List.mem_of_getElem? (i := 602) (by decide +kernel), List.mem_of_getElem? (i := 603) (by decide +kernel)⟩
theorem lw_p15 : lw_okq (⟨"FifthBeatsModel", "fifthTold", "(II)I"⟩, 7) := ⟨⟨by decide +kernel, by decide +kernel⟩, List.mem_of_getElem? (i := 488) (by decide +kernel), List.mem_of_getElem? (i := 611) (by decide +kernel), List.mem_of_getElem? (i := 612) (by decide +kernel)⟩
def lw_privs_1 : List (MethodName × Nat) := [(⟨"FifthBeats", "costWithWolf", "(I)I"⟩, 2), (⟨"FifthBeats", "startTrial", "()V"⟩, 2), (⟨"FifthBeats", "costWithTuned", "(I)I"⟩, 2), (⟨"java/lang/Throwable", "fillInStackTrace", "(I)Ljava/lang/Throwable;"⟩, 6), (⟨"FifthBeats", "checkNotWolf", "(I)V"⟩, 2), (⟨"FifthBeats", "costWithNarrow", "(II)I"⟩, 2), (⟨"FifthBeatsModel", "no", "(I)I"⟩, 7), (⟨"FifthBeatsModel", "shiftTo", "(I)V"⟩, 7), (⟨"FifthBeatsModel", "planOf", "(I)I"⟩, 7), (⟨"FifthBeatsModel", "canTune", "(I)Z"⟩, 7), (⟨"FifthBeatsModel", "tuned", "(I)I"⟩, 7), (⟨"FifthBeatsModel", "majorOff", "(I)I"⟩, 7), (⟨"FifthBeatsModel", "narrow", "(II)I"⟩, 7), (⟨"FifthBeatsModel", "offOf", "(I)I"⟩, 7), (⟨"FifthBeatsModel", "pass", "()V"⟩, 7), (⟨"FifthBeatsModel", "fifthTold", "(II)I"⟩, 7)]
theorem lw_r1 : ∀ q ∈ lw_privs_1, lw_okq q := List.forall_mem_cons.mpr ⟨lw_p0, List.forall_mem_cons.mpr ⟨lw_p1, List.forall_mem_cons.mpr ⟨lw_p2, List.forall_mem_cons.mpr ⟨lw_p3, List.forall_mem_cons.mpr ⟨lw_p4, List.forall_mem_cons.mpr ⟨lw_p5, List.forall_mem_cons.mpr ⟨lw_p6, List.forall_mem_cons.mpr ⟨lw_p7, List.forall_mem_cons.mpr ⟨lw_p8, List.forall_mem_cons.mpr ⟨lw_p9, List.forall_mem_cons.mpr ⟨lw_p10, List.forall_mem_cons.mpr ⟨lw_p11, List.forall_mem_cons.mpr ⟨lw_p12, List.forall_mem_cons.mpr ⟨lw_p13, List.forall_mem_cons.mpr ⟨lw_p14, List.forall_mem_cons.mpr ⟨lw_p15, fun _ h => absurd h List.not_mem_nil⟩⟩⟩⟩⟩⟩⟩⟩⟩⟩⟩⟩⟩⟩⟩⟩
theorem lw_p16 : lw_okq (⟨"FifthBeatsModel", "fifthBeats", "(I)I"⟩, 7) := ⟨⟨by decide +kernel, by decide +kernel⟩, List.mem_of_getElem? (i := 488) (by decide +kernel), List.mem_of_getElem? (i := 615) (by decide +kernel), List.mem_of_getElem? (i := 616) (by decide +kernel)⟩
theorem lw_p17 : lw_okq (⟨"FifthBeatsModel", "majorTold", "(II)I"⟩, 7) := ⟨⟨by decide +kernel, by decide +kernel⟩, List.mem_of_getElem? (i := 488) (by decide +kernel), List.mem_of_getElem? (i := 631) (by decide +kernel), List.mem_of_getElem? (i := 632) (by decide +kernel)⟩
theorem lw_p18 : lw_okq (⟨"FifthBeatsModel", "minorTold", "(II)I"⟩, 7) := ⟨⟨by decide +kernel, by decide +kernel⟩, List.mem_of_getElem? (i := 488) (by decide +kernel), List.mem_of_getElem? (i := 639) (by decide +kernel), List.mem_of_getElem? (i := 640) (by decide +kernel)⟩
theorem lw_p19 : lw_okq (⟨"FifthBeatsModel", "minorOff", "(I)I"⟩, 7) := ⟨⟨by decide +kernel, by decide +kernel⟩, List.mem_of_getElem? (i := 488) (by decide +kernel), List.mem_of_getElem? (i := 643) (by decide +kernel), List.mem_of_getElem? (i := 644) (by decide +kernel)⟩
theorem lw_p20 : lw_okq (⟨"FifthBeatsModel", "noteTold", "(II)I"⟩, 7) := ⟨⟨by decide +kernel, by decide +kernel⟩, List.mem_of_getElem? (i := 488) (by decide +kernel), List.mem_of_getElem? (i := 651) (by decide +kernel), List.mem_of_getElem? (i := 652) (by decide +kernel)⟩
theorem lw_p21 : lw_okq (⟨"FifthBeatsModel", "keyTold", "(II)I"⟩, 7) := ⟨⟨by decide +kernel, by decide +kernel⟩, List.mem_of_getElem? (i := 488) (by decide +kernel), List.mem_of_getElem? (i := 660) (by decide +kernel), List.mem_of_getElem? (i := 661) (by decide +kernel)⟩
theorem lw_p22 : lw_okq (⟨"FifthBeatsModel", "sour", "(I)I"⟩, 7) := ⟨⟨by decide +kernel, by decide +kernel⟩, List.mem_of_getElem? (i := 488) (by decide +kernel), List.mem_of_getElem? (i := 664) (by decide +kernel), List.mem_of_getElem? (i := 665) (by decide +kernel)⟩
theorem lw_p23 : lw_okq (⟨"FifthBeatsModel", "place", "(I)I"⟩, 7) := ⟨⟨by decide +kernel, by decide +kernel⟩, List.mem_of_getElem? (i := 488) (by decide +kernel), List.mem_of_getElem? (i := 668) (by decide +kernel), List.mem_of_getElem? (i := 669) (by decide +kernel)⟩
theorem lw_p24 : lw_okq (⟨"FifthBeatsModel", "counted", "(I)I"⟩, 7) := ⟨⟨by decide +kernel, by decide +kernel⟩, List.mem_of_getElem? (i := 488) (by decide +kernel), List.mem_of_getElem? (i := 676) (by decide +kernel), List.mem_of_getElem? (i := 677) (by decide +kernel)⟩
theorem lw_p25 : lw_okq (⟨"FifthBeatsModel", "costs", "()I"⟩, 7) := ⟨⟨by decide +kernel, by decide +kernel⟩, List.mem_of_getElem? (i := 488) (by decide +kernel), List.mem_of_getElem? (i := 680) (by decide +kernel), List.mem_of_getElem? (i := 681) (by decide +kernel)⟩
theorem lw_p26 : lw_okq (⟨"FifthBeatsModel", "fastest", "()I"⟩, 7) := ⟨⟨by decide +kernel, by decide +kernel⟩, List.mem_of_getElem? (i := 488) (by decide +kernel), List.mem_of_getElem? (i := 684) (by decide +kernel), List.mem_of_getElem? (i := 685) (by decide +kernel)⟩
theorem lw_p27 : lw_okq (⟨"FifthBeatsModel", "copyOf", "([I)[I"⟩, 7) := ⟨⟨by decide +kernel, by decide +kernel⟩, List.mem_of_getElem? (i := 488) (by decide +kernel), List.mem_of_getElem? (i := 692) (by decide +kernel), List.mem_of_getElem? (i := 693) (by decide +kernel)⟩
def lw_privs_2 : List (MethodName × Nat) := [(⟨"FifthBeatsModel", "fifthBeats", "(I)I"⟩, 7), (⟨"FifthBeatsModel", "majorTold", "(II)I"⟩, 7), (⟨"FifthBeatsModel", "minorTold", "(II)I"⟩, 7), (⟨"FifthBeatsModel", "minorOff", "(I)I"⟩, 7), (⟨"FifthBeatsModel", "noteTold", "(II)I"⟩, 7), (⟨"FifthBeatsModel", "keyTold", "(II)I"⟩, 7), (⟨"FifthBeatsModel", "sour", "(I)I"⟩, 7), (⟨"FifthBeatsModel", "place", "(I)I"⟩, 7), (⟨"FifthBeatsModel", "counted", "(I)I"⟩, 7), (⟨"FifthBeatsModel", "costs", "()I"⟩, 7), (⟨"FifthBeatsModel", "fastest", "()I"⟩, 7), (⟨"FifthBeatsModel", "copyOf", "([I)[I"⟩, 7)]
theorem lw_r2 : ∀ q ∈ lw_privs_2, lw_okq q := List.forall_mem_cons.mpr ⟨lw_p16, List.forall_mem_cons.mpr ⟨lw_p17, List.forall_mem_cons.mpr ⟨lw_p18, List.forall_mem_cons.mpr ⟨lw_p19, List.forall_mem_cons.mpr ⟨lw_p20, List.forall_mem_cons.mpr ⟨lw_p21, List.forall_mem_cons.mpr ⟨lw_p22, List.forall_mem_cons.mpr ⟨lw_p23, List.forall_mem_cons.mpr ⟨lw_p24, List.forall_mem_cons.mpr ⟨lw_p25, List.forall_mem_cons.mpr ⟨lw_p26, List.forall_mem_cons.mpr ⟨lw_p27, fun _ h => absurd h List.not_mem_nil⟩⟩⟩⟩⟩⟩⟩⟩⟩⟩⟩⟩
def lw_privs : List (MethodName × Nat) := lw_privs_1 ++ (lw_privs_2)
def lw_tbl : List Cond := k2_sels lw_privs ++ tables_1
theorem lw_privs_ok : ∀ q ∈ lw_privs, lw_okq q := by
  show ∀ q ∈ lw_privs_1 ++ (lw_privs_2), lw_okq q
  exact List.forall_mem_append.mpr ⟨lw_r1, lw_r2⟩
/-- the streams that the claim lets the run draw from -/
abbrev lw_cs : List Choice := [Jvm.Choice.named "NaN.bits"]
theorem lw_bits : nanBits ∈ lw_cs := by first | decide | exact List.mem_cons_self | simp [lw_cs, nanBits]
-- ===== end of PART A; then your names; then what follows =====
end
section
/-! ===== BEGIN words of one list among another's, by their places ===== -/
theorem goodIn_r {big : List Cond} (ws : List Cond) (ps : List Nat) (hp : ws = ps.filterMap (fun i => big[i]?)) (h : ws.all goodWord = true) : GoodIn big ws := by
  intro w hw
  have h1 := List.all_eq_true.mp h w hw
  rw [hp] at hw
  obtain ⟨i, -, hi⟩ := List.mem_filterMap.mp hw
  have hm : w ∈ big := by first | exact List.mem_of_getElem? hi | exact List.getElem?_mem hi
  exact ⟨hm, good_of_word h1⟩
theorem goodIn_app {big a b : List Cond} (ha : GoodIn big a) (hb : GoodIn big b) : GoodIn big (a ++ b) := fun w h => (List.mem_append.mp h).elim (ha w) (hb w)
theorem goodIn_ca {big a b : List Cond} {c : Cond} (ha : GoodIn big (c :: a)) (hb : GoodIn big b) : GoodIn big (c :: (a ++ b)) := fun w h => (List.mem_cons.mp h).elim (fun e => ha w (List.mem_cons.mpr (Or.inl e))) (fun h => (List.mem_append.mp h).elim (fun h => ha w (List.mem_cons.mpr (Or.inr h))) (hb w))
theorem goodIn_sub {big ws : List Cond} (hm : ∀ w ∈ ws, w ∈ big) (h : ws.all goodWord = true) : GoodIn big ws := fun w hw => ⟨hm w hw, good_of_word (List.all_eq_true.mp h w hw)⟩
/-! ===== END ===== -/

/-! ===== BEGIN exceptions that leave a method, and their catching by the caller (launches without stack traces) ===== -/
section VXA
/-! The laws vx_back, vx_callV, vx_callS, vx_callSW, vx_throw0, vx_throwS follow proofs of the library, with one case more: JvmDerived/Free/Laws.lean (Back.of_free), Shelf42/LK1.lean (callV, callS), Shelf/KitTraced.lean (throwNew0V, throwNewS). -/
/-- where a method has thrown q: the class by its name, the cell, what was written, the world -/
def vx_T (XC : String → State → State → Prop) (st : State) (q : Addr) (t : State) (mc ms : Nat) (free : Addr → Prop) : Prop :=
  ∃ (E : String) (ce : Cell) (L : List Loc), XC E st t ∧ t.heap[q]? = some ce ∧ ce.vm = .none ∧ st.vm.findClass E = some ce.cls ∧ st.WarmedH t.vm ∧ st.sameButNew ({ t with vm := st.vm } : State) L mc ms ∧ ∀ z ∈ L, free z.base
def vx_Q (Qc : Array Value → State → Outcome → State → Prop) (XC : String → State → State → Prop) (mc ms : Nat) (free : Addr → Prop) : Array Value → State → Outcome → State → Prop := fun a st o t =>
  (Qc a st o t ∧ ∃ L, FrameEnd st o t L mc ms ∧ ∀ q ∈ L, free q.base) ∨ ∃ q, o = .threw q ∧ vx_T XC st q t mc ms free
/-- a callee that returns or throws -/
def vx_Met (l : Launch) (y : MethodName) (ws : List Cond) (rm : Room) (Pc : Array Value → State → Prop) (Qc : Array Value → State → Outcome → State → Prop) (XC : String → State → State → Prop) (mc ms : Nat) (free : Addr → Prop) : Prop :=
  MetFree l y (headSpec ws rm) Pc (fun _ _ _ _ _ => True) (vx_Q Qc XC mc ms free)
def vx_Post (XC : String → State → State → Prop) (mc ms : Nat) (free : Addr → Prop) : Pt → Array Value → Addr → Pt → Prop := fun A a q B =>
  ∃ (g : JFrame) (mk : MethodId) (t : State) (L : List Loc) (E : String) (ce : Cell), B.U.heap = t.heap ∧ B.U.vm = t.vm ∧ XC E (A.U.calling g mk a) t ∧ t.heap[q]? = some ce ∧ ce.vm = .none ∧ A.U.vm.findClass E = some ce.cls ∧ B.locs = A.locs ++ L ∧ (∀ z ∈ L, free z.base) ∧ B.cells = A.cells + mc ∧ B.slots = A.slots + ms
def vx_Back (l : Launch) (R : Room) (p : Program) (e : Env) (below : List Frame) (s : State) (sargs : Array Value) (y : MethodName) (len W9 : Nat)
    (Pre : Pt → Array Value → Prop) (Post : Pt → Array Value → Option Value → Pt → Prop) (PostX : Pt → Array Value → Addr → Pt → Prop) : Prop :=
  ∀ (m : MethodId) (meth : Method) (c : Code) (A : Pt) (g : JFrame) (ig : Instr) (mk : MethodId) (a : Array Value),
    Stand p l e R s m sargs below meth c A.U A.locs A.cells A.slots → g.method = m → g.locals.size = c.maxLocals → decode c.code g.pc = .ok (ig, len) →
    2 * g.monitorRoom + (g.stack.map fun v => v.category).sum ≤ W9 → A.U.methodNamed? y = some mk → Pre A a →
    (∃ (v : Option Value) (B : Pt), Stand p l e R s m sargs below meth c B.U B.locs B.cells B.slots ∧ Post A a v B ∧
      Steps p.tables e below (doInvoke e (A.U.setTop g) [] mk a).1 (B.U.setTop { g with pc := g.pc + len, stack := v.toList ++ g.stack })) ∨
    (∃ (q : Addr) (B : Pt), Stand p l e R s m sargs below meth c B.U B.locs B.cells B.slots ∧ PostX A a q B ∧
      Steps p.tables e below (doInvoke e (A.U.setTop g) [] mk a).1 ((B.U.setTop g).pushFrame (.throwing q)))
section Payer
variable {l : Launch} {R : Room} {p : Program} {e : Env} {below : List Frame} {s : State} {sargs : Array Value} {y : MethodName} {len W9 : Nat}
theorem vx_back {ws : List Cond} {rm : Room} {Pc : Array Value → State → Prop} {Qc : Array Value → State → Outcome → State → Prop} {XC : String → State → State → Prop} {mc ms : Nat} {free : Addr → Prop} {bytes : ByteArray} {maxL : Nat} {ret : Option FieldType}
    (hM : vx_Met l y ws rm Pc Qc XC mc ms free) (hblind : FrameBlind Pc) (hrc : rm.cells = mc) (hrs : rm.slots = ms)
    (hframes : rm.frames + 1 ≤ R.frames) (hlocals : W9 + (maxL + 11) + rm.locals ≤ R.locals)
    (hws : ∀ w ∈ ws, ∀ a' U, s.WarmedH U.vm → w.before a' U = true) (hcode : Cond.code y bytes maxL ret ∈ ws) (hinit : ∀ a' U, s.WarmedH U.vm → (Cond.initialized y.cls).before a' U = true) :
    vx_Back l R p e below s sargs y len W9 (PreOf R mc ms Pc) (PostOf Qc mc ms free) (vx_Post XC mc ms free) := by
  intro m meth c A g ig mk a X hg hsize hdg hW hn hp
  have h1 : (headSpec ws rm).pre.before a A.U = true := atoms_intro fun w hw => hws w hw _ _ X.warmed
  have h2 : (Cond.code y bytes maxL ret).before a A.U = true := hws _ hcode _ _ X.warmed
  have h3 : (Cond.initialized y.cls).before a A.U = true := hinit _ _ X.warmed
  have h4 : A.cells + (headSpec ws rm).room.cells ≤ R.cells := by rw [show (headSpec ws rm).room.cells = mc from hrc]; exact hp.1
  have h5 : A.slots + (headSpec ws rm).room.slots ≤ R.slots := by rw [show (headSpec ws rm).room.slots = ms from hrs]; exact hp.2.1
  have hPc : Pc a (A.U.calling g mk a) := hblind _ _ _ _ hp.2.2
  obtain ⟨U, Ls, c0, s0⟩ := A
  dsimp only [Pt.U, Pt.locs, Pt.cells, Pt.slots] at h1 h2 h3 h4 h5 X hn hPc ⊢
  obtain ⟨methY, cY, hmY, hcY, -, hlY, -, -, -, -⟩ := Cond.code_spec hn h2
  obtain ⟨kY, hkY, -⟩ := className_of_methodNamed hn
  have hinitY : kY.init = .initialized := Cond.initialized_spec (findClass_of_methodNamed hn) hkY h3
  have h : At U g.method c below := by rw [hg]; exact X.here
  have hlocals9 : W9 + (maxL + 11) + (headSpec ws rm).room.locals ≤ R.locals := hlocals
  have happ : (headSpec ws rm).appliesLoose y e.platform (U.calling g mk a) = true :=
    Spec.appliesLoose_calling (g := g) h hdg hn hkY hinitY
      (X.room_calling (g := g) (R' := (headSpec ws rm).room) hsize hmY hcY hframes (by rw [hlY]; omega) h4 h5) h1
  obtain ⟨mid, hmid⟩ := h.above
  have hfr : (U.setTop g).frames = (.java g :: mid) ++ below := by rw [State.frames_setTop' g h.top, hmid]; rfl
  obtain ⟨o, s₂, hsteps, -, hend, hq⟩ := Steps.callFree hM p X.admits X.cas X.clock (acts := []) hfr happ hPc trivial
  have hq' : vx_Q Qc XC mc ms free a (U.calling g mk a) o s₂ := hq
  rw [State.frames_setTop' g h.top] at hend
  obtain ⟨g₀, hg0⟩ := Option.isSome_iff_exists.mp h.top
  obtain ⟨r, hr⟩ := State.topJava?_eq_some.mp hg0
  have hr' : (({ U with heap := s₂.heap, slotsUsed := s₂.slotsUsed } : State).setVm s₂.vm).frames = .java g₀ :: r := hr
  rcases hq' with ⟨hqc, L, hfe, hL⟩ | ⟨q, rfl, E, ce, L, hx, hce, hcv, hcl, hW₂, hsm, hL⟩
  · obtain ⟨⟨v, rfl⟩, hW₂, e2, q2, q3, q4, q5, q6⟩ := id hfe
    have e3 : s₂ = ({ (U.calling g mk a).setFrames s₂.frames with heap := s₂.heap, slotsUsed := s₂.slotsUsed } : State).setVm s₂.vm := by
      have : s₂ = ({ s₂ with vm := (U.calling g mk a).vm } : State).setVm s₂.vm := rfl
      rw [e2] at this
      exact this
    obtain ⟨c₂, i₂, len₂, hc₂, hd₂, hf₂⟩ := hend
    have hW' : U.WarmedH s₂.vm := hW₂
    have hcc : c₂ = c := by
      have h1 : s₂.code? g.method = U.code? g.method := by
        rw [State.code?_eq, State.code?_eq, hW'.alike.method?]
      exact Option.some.inj (hc₂.symm.trans (h1.trans h.code))
    subst hcc
    have hlen : len₂ = len := by rw [hdg] at hd₂; cases hd₂; rfl
    subst hlen
    have hs₂ : s₂ = (({ U with heap := s₂.heap, slotsUsed := s₂.slotsUsed } : State).setVm s₂.vm).setTop { g with pc := g.pc + len₂, stack := v.toList ++ g.stack } := by
      refine e3.trans ?_
      rw [hf₂, State.calling_eq h.top, State.setFrames_setFrames, State.setTop_of_frames _ hr', hr]
      rfl
    have hsame : U.sameButNew ({ U with heap := s₂.heap, slotsUsed := s₂.slotsUsed } : State) L mc ms := by
      refine ⟨?_, q2, q3, q4, q5, q6⟩
      obtain ⟨t, ht, -⟩ := State.frames_cons hr
      show ({ U with heap := s₂.heap, slotsUsed := s₂.slotsUsed } : State) = { U.setFrames U.frames with heap := s₂.heap, slotsUsed := s₂.slotsUsed }
      rw [State.setFrames_self ht]
    subst hg
    refine Or.inl ⟨v, ⟨(({ U with heap := s₂.heap, slotsUsed := s₂.slotsUsed } : State).setVm s₂.vm), Ls ++ L, c0 + mc, s0 + ms⟩,
      ⟨X.admits, X.cas, X.clock, X.frames, X.room, X.hears, X.method, X.code, (X.here.setHeapUsed s₂.heap s₂.slotsUsed).setVm hW'.alike, X.tail, State.WarmedH.trans X.warmed hW', X.limits, X.bytes, X.same.trans (hsame.setVm s.vm)⟩,
      ⟨g, mk, s₂, L, rfl, rfl, hqc, rfl, hL, rfl, rfl⟩, ?_⟩
    show Steps p.tables e below _ ((({ U with heap := s₂.heap, slotsUsed := s₂.slotsUsed } : State).setVm s₂.vm).setTop { g with pc := g.pc + len₂, stack := v.toList ++ g.stack })
    rw [← hs₂]
    exact hsteps
  · obtain ⟨e2, q2, q3, q4, q5, q6⟩ := id hsm
    have e3 : s₂ = ({ (U.calling g mk a).setFrames s₂.frames with heap := s₂.heap, slotsUsed := s₂.slotsUsed } : State).setVm s₂.vm := by
      have : s₂ = ({ s₂ with vm := (U.calling g mk a).vm } : State).setVm s₂.vm := rfl
      rw [e2] at this
      exact this
    have hf₂ : s₂.frames = .throwing q :: .java g :: U.frames.tail := hend
    have hW' : U.WarmedH s₂.vm := hW₂
    have hs₂ : s₂ = ((({ U with heap := s₂.heap, slotsUsed := s₂.slotsUsed } : State).setVm s₂.vm).setTop g).pushFrame (.throwing q) := by
      refine e3.trans ?_
      rw [hf₂, State.calling_eq h.top, State.setFrames_setFrames, State.pushFrame, State.frames_setTop _ hr', State.setTop_of_frames _ hr', State.setFrames_setFrames, hr]
      rfl
    have hsame : U.sameButNew ({ U with heap := s₂.heap, slotsUsed := s₂.slotsUsed } : State) L mc ms := by
      refine ⟨?_, q2, q3, q4, q5, q6⟩
      obtain ⟨t, ht, -⟩ := State.frames_cons hr
      show ({ U with heap := s₂.heap, slotsUsed := s₂.slotsUsed } : State) = { U.setFrames U.frames with heap := s₂.heap, slotsUsed := s₂.slotsUsed }
      rw [State.setFrames_self ht]
    subst hg
    refine Or.inr ⟨q, ⟨(({ U with heap := s₂.heap, slotsUsed := s₂.slotsUsed } : State).setVm s₂.vm), Ls ++ L, c0 + mc, s0 + ms⟩,
      ⟨X.admits, X.cas, X.clock, X.frames, X.room, X.hears, X.method, X.code, (X.here.setHeapUsed s₂.heap s₂.slotsUsed).setVm hW'.alike, X.tail, State.WarmedH.trans X.warmed hW', X.limits, X.bytes, X.same.trans (hsame.setVm s.vm)⟩,
      ⟨g, mk, s₂, L, E, ce, rfl, rfl, hx, hce, hcv, hcl, rfl, hL, rfl, rfl⟩, ?_⟩
    show Steps p.tables e below _ (((({ U with heap := s₂.heap, slotsUsed := s₂.slotsUsed } : State).setVm s₂.vm).setTop g).pushFrame (.throwing q))
    rw [← hs₂]
    exact hsteps
end Payer
section Calls
variable {p : Program} {l : Launch} {e : Env} {R : Room} {s : State} {m : MethodId} {args : Array Value} {below : List Frame} {meth : Method} {c : Code} {T : State} {locs : List Loc} {cells slots : Nat}
theorem vx_callV (X : Stand p l e R s m args below meth c T locs cells slots) (hexec : p.tables.exec = Jvm.exec) {own C : String} {index : Nat} {y : MethodName} {bytes : ByteArray} {maxL : Nat} {ret : Option FieldType}
    (hown : s.vm.findClass own = some m.cls) (hlink : (Cond.methodLink own index y).before args s = true) (hinst : (Cond.instanceMethod y).before args s = true) (hsel : (Cond.selects C y y).before args s = true)
    (hcode : (Cond.code y bytes maxL ret).before args s = true) (hy : y.cls ≠ "java/lang/invoke/MethodHandle" ∧ y.cls ≠ "java/lang/invoke/VarHandle")
    {W9 : Nat} {Pre : Pt → Array Value → Prop} {Post : Pt → Array Value → Option Value → Pt → Prop} {PostX : Pt → Array Value → Addr → Pt → Prop} (hK : vx_Back l R p e below s args y 3 W9 Pre Post PostX)
    {b : Addr} {cellB : Cell} (hcell : T.heap[b]? = some cellB) (hobj : cellB.vm.isStatics = false) (hcls : s.vm.findClass C = some cellB.cls)
    {g : JFrame} (hg : g.method = m) (hsize : g.locals.size = c.maxLocals) {argsL rest : List Value} (hlen : ∀ sig, parseMethodDescriptor y.desc = some sig → argsL.length = sig.parameters.length)
    (hstack : g.stack = argsL.reverse ++ .ref b :: rest) (hW : 2 * g.monitorRoom + (rest.map fun v => v.category).sum ≤ W9) (hdg : decode c.code g.pc = .ok (.invokevirtual index, 3))
    (hpre : ∀ vm₁, s.WarmedH vm₁ → Pre ⟨T.setVm vm₁, locs, cells, slots⟩ (Value.ref b :: argsL).toArray) :
    (∃ (v : Option Value) (vm₁ : Vm) (B : Pt), s.WarmedH vm₁ ∧ Stand p l e R s m args below meth c B.U B.locs B.cells B.slots ∧ Post ⟨T.setVm vm₁, locs, cells, slots⟩ (Value.ref b :: argsL).toArray v B ∧
      ∀ target, Steps p.tables e below (B.U.setTop { g with pc := g.pc + 3, stack := v.toList ++ rest }) target → Steps p.tables e below (T.setTop g) target) ∨
    (∃ (q : Addr) (vm₁ : Vm) (B : Pt), s.WarmedH vm₁ ∧ Stand p l e R s m args below meth c B.U B.locs B.cells B.slots ∧ PostX ⟨T.setVm vm₁, locs, cells, slots⟩ (Value.ref b :: argsL).toArray q B ∧
      Steps p.tables e below (T.setTop g) ((B.U.setTop { g with stack := rest }).pushFrame (.throwing q))) := by
  obtain ⟨mk, methM, hnamed, hmethM, hstM, habM⟩ := Cond.instanceMethod_spec hinst
  obtain ⟨methM', cM, hmethM', -, -, -, -, -, -, hsigM⟩ := Cond.code_spec hnamed hcode
  cases hmethM.symm.trans hmethM'
  obtain ⟨c2, r2, m2, q1, q2, q3, q4, kP, hkP, hkPi⟩ := Cond.selects_spec hsel
  cases hcls.symm.trans q1
  cases (State.methodFound?_of_named hnamed hy).symm.trans q2
  cases hnamed.symm.trans q3
  have hselP : selectMethod e.platform s.vm cellB.cls mk = .method mk := by rw [Launch.admits_selectMethod X.admits]; exact q4
  obtain ⟨vm₁, X₁, hstep₁⟩ := X.invokevirtual hexec hown hlink hnamed hmethM hstM hkP hkPi hy (a := b) (cell := cellB) hcell
    (fun z h => by rw [h] at hobj; cases hobj) hselP hmethM habM hkP hkPi (g := g) hg (argsL := argsL) (rest := rest) (hlen _ hsigM) hstack hdg
  rcases hK m meth c ⟨T.setVm vm₁, locs, cells, slots⟩ { g with stack := rest } (.invokevirtual index) mk (Value.ref b :: argsL).toArray X₁ hg hsize hdg hW (X₁.named hnamed) (hpre vm₁ X₁.warmed) with ⟨v, B, X', hpost, hsteps⟩ | ⟨q, B, X', hpost, hsteps⟩
  · exact Or.inl ⟨v, vm₁, B, X₁.warmed, X', hpost, fun target h => hstep₁ _ fun acts => by rw [doInvoke_state]; exact hsteps.trans h⟩
  · exact Or.inr ⟨q, vm₁, B, X₁.warmed, X', hpost, hstep₁ _ fun acts => by rw [doInvoke_state]; exact hsteps⟩
theorem vx_callS (X : Stand p l e R s m args below meth c T locs cells slots) (hexec : p.tables.exec = Jvm.exec) {own : String} {index : Nat} {y : MethodName} {bytes : ByteArray} {maxL : Nat} {ret : Option FieldType}
    (hown : s.vm.findClass own = some m.cls) (hlink : (Cond.methodLink own index y).before args s = true) (hstat : (Cond.static y).before args s = true) (hinit : (Cond.initialized y.cls).before args s = true)
    (hcode : (Cond.code y bytes maxL ret).before args s = true) (hy : y.cls ≠ "java/lang/invoke/MethodHandle" ∧ y.cls ≠ "java/lang/invoke/VarHandle")
    {W9 : Nat} {Pre : Pt → Array Value → Prop} {Post : Pt → Array Value → Option Value → Pt → Prop} {PostX : Pt → Array Value → Addr → Pt → Prop} (hK : vx_Back l R p e below s args y 3 W9 Pre Post PostX)
    {g : JFrame} (hg : g.method = m) (hsize : g.locals.size = c.maxLocals) {argsL rest : List Value} (hlen : ∀ sig, parseMethodDescriptor y.desc = some sig → argsL.length = sig.parameters.length)
    (hstack : g.stack = argsL.reverse ++ rest) (hW : 2 * g.monitorRoom + (rest.map fun v => v.category).sum ≤ W9) (hdg : decode c.code g.pc = .ok (.invokestatic index, 3))
    (hpre : ∀ vm₁, s.WarmedH vm₁ → Pre ⟨T.setVm vm₁, locs, cells, slots⟩ argsL.toArray) :
    (∃ (v : Option Value) (vm₁ : Vm) (B : Pt), s.WarmedH vm₁ ∧ Stand p l e R s m args below meth c B.U B.locs B.cells B.slots ∧ Post ⟨T.setVm vm₁, locs, cells, slots⟩ argsL.toArray v B ∧
      ∀ target, Steps p.tables e below (B.U.setTop { g with pc := g.pc + 3, stack := v.toList ++ rest }) target → Steps p.tables e below (T.setTop g) target) ∨
    (∃ (q : Addr) (vm₁ : Vm) (B : Pt), s.WarmedH vm₁ ∧ Stand p l e R s m args below meth c B.U B.locs B.cells B.slots ∧ PostX ⟨T.setVm vm₁, locs, cells, slots⟩ argsL.toArray q B ∧
      Steps p.tables e below (T.setTop g) ((B.U.setTop { g with stack := rest }).pushFrame (.throwing q))) := by
  obtain ⟨mk, hnamed⟩ := Cond.code_named hcode
  obtain ⟨methM, cM, hmethM, -, -, -, -, -, -, hsigM⟩ := Cond.code_spec hnamed hcode
  have hstatic : methM.isStatic = true := Cond.static_spec hnamed hmethM hstat
  obtain ⟨kP, hkP, -⟩ := className_of_methodNamed hnamed
  have hinitP : kP.init = .initialized := Cond.initialized_spec (findClass_of_methodNamed hnamed) hkP hinit
  obtain ⟨vm₁, X₁, hstep₁⟩ := X.invokestatic hexec hown hlink hnamed hmethM hstatic hkP hinitP hy (g := g) hg (argsL := argsL) (rest := rest) (hlen _ hsigM) hstack hdg
  rcases hK m meth c ⟨T.setVm vm₁, locs, cells, slots⟩ { g with stack := rest } (.invokestatic index) mk argsL.toArray X₁ hg hsize hdg hW (X₁.named hnamed) (hpre vm₁ X₁.warmed) with ⟨v, B, X', hpost, hsteps⟩ | ⟨q, B, X', hpost, hsteps⟩
  · exact Or.inl ⟨v, vm₁, B, X₁.warmed, X', hpost, fun target h => hstep₁ _ fun acts => by rw [doInvoke_state]; exact hsteps.trans h⟩
  · exact Or.inr ⟨q, vm₁, B, X₁.warmed, X', hpost, hstep₁ _ fun acts => by rw [doInvoke_state]; exact hsteps⟩
end Calls
theorem vx_cls {s : State} {T : State} {vm₁ : Vm} {E : String} {k : ClassId} (hW : s.WarmedH vm₁) (h : (T.setVm vm₁).vm.findClass E = some k) : s.vm.findClass E = some k := by
  have h1 : vm₁.findClass E = some k := h
  rw [hW.alike.findClass] at h1
  exact h1
/-- the method's frame g, with q thrown over it -/
def vx_W (p : Program) (l : Launch) (e : Env) (R : Room) (s : State) (m : MethodId) (args : Array Value) (below : List Frame) (meth : Method) (c : Code) (H : Heap) (locs : List Loc) (cells slots : Nat) (Q : State → Prop) (g : JFrame) (q : Addr) : Prop :=
  ∀ T : State, T.heap = H → Stand p l e R s m args below meth c T locs cells slots → ∃ t, Steps p.tables e below ((T.setTop g).pushFrame (.throwing q)) t ∧ Q t
def vx_Run (p : Program) (l : Launch) (e : Env) (R : Room) (s : State) (m : MethodId) (args : Array Value) (below : List Frame) (meth : Method) (c : Code) (H : Heap) (locs : List Loc) (cells slots mc ms : Nat) (g : JFrame) (rest : List Value) (Qa : State → Outcome → State → Prop) (XC : String → State → State → Prop) (free : Addr → Prop) : Prop :=
  ∀ T : State, T.heap = H → Stand p l e R s m args below meth c T locs cells slots →
    (∃ (v : Option Value) (st₀ t T' : State) (L : List Loc), st₀.heap = H ∧ Stand p l e R s m args below meth c T' (locs ++ L) (cells + mc) (slots + ms) ∧ (∀ q ∈ L, free q.base) ∧ T'.heap = t.heap ∧ T'.vm = t.vm ∧ Qa st₀ (.returned v) t ∧
      Goes p e below T g T' { g with pc := g.pc + 3, stack := v.toList ++ rest }) ∨
    (∃ (q : Addr) (st₀ t T' : State) (L : List Loc) (E : String) (ce : Cell), st₀.heap = H ∧ Stand p l e R s m args below meth c T' (locs ++ L) (cells + mc) (slots + ms) ∧ (∀ z ∈ L, free z.base) ∧ T'.heap = t.heap ∧ T'.vm = t.vm ∧ XC E st₀ t ∧ t.heap[q]? = some ce ∧ ce.vm = .none ∧ s.vm.findClass E = some ce.cls ∧
      Steps p.tables e below (T.setTop g) ((T'.setTop { g with stack := rest }).pushFrame (.throwing q)))
def vx_X {S : Type} (px : S → Prop) (B : String → S → State → Prop) (A : Nat → Prop) : String → State → State → Prop := fun E st t => ∃ u : S, px u ∧ B E u t ∧ va_F A st t
section Runs
variable {p : Program} {l : Launch} {e : Env} {R : Room} {s : State} {m : MethodId} {args : Array Value} {below : List Frame} {meth : Method} {c : Code} {H : Heap} {locs : List Loc} {cells slots : Nat}
variable {y : MethodName} {bytes cc : ByteArray} {maxL nL mc ms n index : Nat} {ret : Option FieldType} {ws : List Cond} {rm : Room} {Pc : Array Value → State → Prop} {Qc : Array Value → State → Outcome → State → Prop} {XC : String → State → State → Prop} {free : Addr → Prop} {Ts : List Cond} {own C : String} {b : Addr} {As rest : List Value} {g : JFrame}
theorem vx_callBack (cb : CallB R s args own index y bytes maxL ret ws rm mc ms n) (hM : vx_Met l y ws rm Pc Qc XC mc ms free) (hbl : FrameBlind Pc) : vx_Back l R p e below s args y 3 8 (PreOf R mc ms Pc) (PostOf Qc mc ms free) (vx_Post XC mc ms free) := by
  obtain ⟨hrc, hrs, hfr, hlo, hws, hcw, -, hini, -⟩ := cb
  exact vx_back (bytes := bytes) (maxL := maxL) (ret := ret) hM hbl hrc hrs hfr hlo hws hcw (fun a' U hW => word_at hW (Or.inl (by first | rfl | simp [Cond.onTables, Cond.keeps, Cond.steady])) hini)
theorem vx_runV (S : CallFix p m c cc nL s args Ts own) (hM : vx_Met l y ws rm Pc Qc XC mc ms free) (cw : CallW R s args own C index y bytes maxL ret ws rm mc ms n) (hp : PreV s H C b Pc As)
    (hg : g.method = m) (hn : As.length = n) (hsize : g.locals.size = nL) (hstack : g.stack = As.reverse ++ .ref b :: rest) (hW : 2 * g.monitorRoom + (rest.map fun v => v.category).sum ≤ 8) (hdg : decode cc g.pc = .ok (.invokevirtual index, 3)) (hf : cells + mc ≤ R.cells ∧ slots + ms ≤ R.slots) :
    vx_Run p l e R s m args below meth c H locs cells slots mc ms g rest (Qc (Value.ref b :: As).toArray) XC free := by
  have hK : vx_Back l R p e below s args y 3 8 (PreOf R mc ms Pc) (PostOf Qc mc ms free) (vx_Post XC mc ms free) := vx_callBack cw.1 hM hp.1
  obtain ⟨⟨-, -, -, -, -, -, hcode, -, hy, hlen, hl⟩, hin, hse⟩ := cw
  obtain ⟨hx, hb, hml, ho, -⟩ := S
  obtain ⟨-, ⟨cellB, hcB, hoB, hclB⟩, hPc⟩ := hp
  intro T hT X
  rcases vx_callV X hx (C := C) (bytes := bytes) (maxL := maxL) (ret := ret) ho hl hin hse hcode hy hK (by rw [hT]; exact hcB) hoB hclB hg (hsize.trans hml.symm) (argsL := As) (rest := rest) (fun sig h => hn.trans (hlen sig h)) hstack hW (by rw [hb]; exact hdg)
    (fun vm₁ hW₁ => ⟨hf.1, hf.2, hPc (T.setVm vm₁) hT hW₁⟩) with ⟨v, vm₁, ⟨U', l2, c2, s2⟩, hW₁, X', ⟨g', mk, t, L, e1, e2, hq, h1, hL, h2, h3⟩, st⟩ | ⟨q, vm₁, ⟨U', l2, c2, s2⟩, hW₁, X', ⟨g', mk, t, L, E, ce, e1, e2, hq, hce, hcv, hcl, h1, hL, h2, h3⟩, st⟩
  · dsimp only [Pt.U, Pt.locs, Pt.cells, Pt.slots] at X' e1 e2 h1 h2 h3 st
    subst h1; subst h2; subst h3
    exact Or.inl ⟨v, (T.setVm vm₁).calling g' mk (Value.ref b :: As).toArray, t, U', L, hT, X', hL, e1, e2, hq, st⟩
  · dsimp only [Pt.U, Pt.locs, Pt.cells, Pt.slots] at X' e1 e2 h1 h2 h3 st hcl
    subst h1; subst h2; subst h3
    exact Or.inr ⟨q, (T.setVm vm₁).calling g' mk (Value.ref b :: As).toArray, t, U', L, E, ce, hT, X', hL, e1, e2, hq, hce, hcv, vx_cls hW₁ hcl, st⟩
theorem vx_runS (S : CallFix p m c cc nL s args Ts own) (hM : vx_Met l y ws rm Pc Qc XC mc ms free) (cw : CallB R s args own index y bytes maxL ret ws rm mc ms n ∧ (Cond.static y).before args s = true) (hp : PreS s H Pc As)
    (hg : g.method = m) (hn : As.length = n) (hsize : g.locals.size = nL) (hstack : g.stack = As.reverse ++ rest) (hW : 2 * g.monitorRoom + (rest.map fun v => v.category).sum ≤ 8) (hdg : decode cc g.pc = .ok (.invokestatic index, 3)) (hf : cells + mc ≤ R.cells ∧ slots + ms ≤ R.slots) :
    vx_Run p l e R s m args below meth c H locs cells slots mc ms g rest (Qc As.toArray) XC free := by
  have hK : vx_Back l R p e below s args y 3 8 (PreOf R mc ms Pc) (PostOf Qc mc ms free) (vx_Post XC mc ms free) := vx_callBack cw.1 hM hp.1
  obtain ⟨⟨-, -, -, -, -, -, hcode, hini, hy, hlen, hl⟩, hstt⟩ := cw
  obtain ⟨hx, hb, hml, ho, -⟩ := S
  intro T hT X
  rcases vx_callS X hx (bytes := bytes) (maxL := maxL) (ret := ret) ho hl hstt hini hcode hy hK hg (hsize.trans hml.symm) (argsL := As) (rest := rest) (fun sig h => hn.trans (hlen sig h)) hstack hW (by rw [hb]; exact hdg)
    (fun vm₁ hW₁ => ⟨hf.1, hf.2, hp.2 (T.setVm vm₁) hT hW₁⟩) with ⟨v, vm₁, ⟨U', l2, c2, s2⟩, hW₁, X', ⟨g', mk, t, L, e1, e2, hq, h1, hL, h2, h3⟩, st⟩ | ⟨q, vm₁, ⟨U', l2, c2, s2⟩, hW₁, X', ⟨g', mk, t, L, E, ce, e1, e2, hq, hce, hcv, hcl, h1, hL, h2, h3⟩, st⟩
  · dsimp only [Pt.U, Pt.locs, Pt.cells, Pt.slots] at X' e1 e2 h1 h2 h3 st
    subst h1; subst h2; subst h3
    exact Or.inl ⟨v, (T.setVm vm₁).calling g' mk As.toArray, t, U', L, hT, X', hL, e1, e2, hq, st⟩
  · dsimp only [Pt.U, Pt.locs, Pt.cells, Pt.slots] at X' e1 e2 h1 h2 h3 st hcl
    subst h1; subst h2; subst h3
    exact Or.inr ⟨q, (T.setVm vm₁).calling g' mk As.toArray, t, U', L, E, ce, hT, X', hL, e1, e2, hq, hce, hcv, vx_cls hW₁ hcl, st⟩
end Runs
section Rows
variable {p : Program} {l : Launch} {e : Env} {R : Room} {s : State} {m : MethodId} {args : Array Value} {below : List Frame} {meth : Method} {c : Code} {H : Heap} {locs : List Loc} {cells slots : Nat} {Q : State → Prop}
variable {mc ms : Nat} {free : Addr → Prop} {A0 A1 : Nat → Prop} {H0 : Heap} {a : Array Value} {pc : Nat} {ls : Array Slot} {st0 rest : List Value}
theorem vx_keep {st₀ t T' : State} {L : List Loc} (h0 : st₀.heap = H) (e1 : T'.heap = t.heap) (hS : va_S A0 H0 H locs) (hA : ∀ q, q < H.size → A1 q → A0 q) (hf : ∀ q, free q → A0 q) (hL : ∀ q ∈ L, free q.base) (hF : va_F A1 st₀ t) :
    H.size ≤ T'.heap.size ∧ (∀ q : Nat, q < H.size → ¬ A1 q → T'.heap[q]? = H[q]?) ∧ va_S A0 H0 T'.heap (locs ++ L) := by
  obtain ⟨hz, hk⟩ := hF
  rw [h0] at hz hk
  exact ⟨by rw [e1]; exact hz, fun q h1 h2 => by rw [e1]; exact hk q h1 h2,
    ⟨Nat.le_trans hS.1 (by rw [e1]; exact hz), fun q h1 h2 => by rw [e1, hk q (Nat.lt_of_lt_of_le h1 hS.1) (fun z => h2 (hA q (Nat.lt_of_lt_of_le h1 hS.1) z))]; exact hS.2.1 q h1 h2, fun q hq => by
      rcases List.mem_append.mp hq with h | h
      · exact hS.2.2 q h
      · exact hf _ (hL q h)⟩⟩
theorem vx_calli {S SX : Type} {post : Int32 → S → Prop} {px : SX → Prop} {B : S → State → Prop} {BX : String → SX → State → Prop} {AX : Nat → Prop} (hr : vx_Run p l e R s m args below meth c H locs cells slots mc ms (F0 m pc ls st0) rest (va_Qi post B A1 a) (vx_X px BX AX) free) (hS : va_S A0 H0 H locs) (hA : ∀ q, q < H.size → A1 q → A0 q) (hf : ∀ q, free q → A0 q) (hAX : ∀ q, q < H.size → AX q → A0 q)
    (kx : ∀ (E : String) (ce : Cell) (q9 : Addr) (u : SX) (t : State) (H1 : Heap) (locs1 : List Loc), t.heap = H1 → s.vm.Alike t.vm → px u → BX E u t → H.size ≤ H1.size → (∀ q : Nat, q < H.size → ¬ AX q → H1[q]? = H[q]?) → va_S A0 H0 H1 locs1 → H1[q9]? = some ce → ce.vm = .none → s.vm.findClass E = some ce.cls → vx_W p l e R s m args below meth c H1 locs1 (cells + mc) (slots + ms) Q (F0 m pc ls rest) q9)
    (kk : ∀ (r : Int32) (u : S) (t : State) (H1 : Heap) (locs1 : List Loc), t.heap = H1 → s.vm.Alike t.vm → post r u → B u t → H.size ≤ H1.size → (∀ q : Nat, q < H.size → ¬ A1 q → H1[q]? = H[q]?) → va_S A0 H0 H1 locs1 → W p l e R s m args below meth c H1 locs1 (cells + mc) (slots + ms) Q (F0 m (pc + 3) ls (.int r :: rest))) : W p l e R s m args below meth c H locs cells slots Q (F0 m pc ls st0) := by
  intro T hT X
  rcases hr T hT X with ⟨v, st₀, t, T', L, h0, X', hL, e1, e2, ⟨⟨r, u, hv, hp, hb⟩, hF⟩, st⟩ | ⟨q, st₀, t, T', L, E, ce, h0, X', hL, e1, e2, ⟨u, hp, hb, hF⟩, hce, hcv, hcl, st⟩
  · cases hv
    obtain ⟨k1, k2, k3⟩ := vx_keep h0 e1 hS hA hf hL hF
    obtain ⟨t2, a1, b1⟩ := kk r u t T'.heap (locs ++ L) e1.symm (by rw [← e2]; exact X'.warmed.alike) hp hb k1 k2 k3 T' rfl X'
    exact ⟨t2, st t2 a1, b1⟩
  · obtain ⟨k1, k2, k3⟩ := vx_keep h0 e1 hS hAX hf hL hF
    obtain ⟨t2, a1, b1⟩ := kx E ce q u t T'.heap (locs ++ L) e1.symm (by rw [← e2]; exact X'.warmed.alike) hp hb k1 k2 k3 (by rw [e1]; exact hce) hcv hcl T' rfl X'
    exact ⟨t2, st.trans a1, b1⟩
theorem vx_calll {S SX : Type} {post : Int64 → S → Prop} {px : SX → Prop} {B : S → State → Prop} {BX : String → SX → State → Prop} {AX : Nat → Prop} (hr : vx_Run p l e R s m args below meth c H locs cells slots mc ms (F0 m pc ls st0) rest (va_Ql post B A1 a) (vx_X px BX AX) free) (hS : va_S A0 H0 H locs) (hA : ∀ q, q < H.size → A1 q → A0 q) (hf : ∀ q, free q → A0 q) (hAX : ∀ q, q < H.size → AX q → A0 q)
    (kx : ∀ (E : String) (ce : Cell) (q9 : Addr) (u : SX) (t : State) (H1 : Heap) (locs1 : List Loc), t.heap = H1 → s.vm.Alike t.vm → px u → BX E u t → H.size ≤ H1.size → (∀ q : Nat, q < H.size → ¬ AX q → H1[q]? = H[q]?) → va_S A0 H0 H1 locs1 → H1[q9]? = some ce → ce.vm = .none → s.vm.findClass E = some ce.cls → vx_W p l e R s m args below meth c H1 locs1 (cells + mc) (slots + ms) Q (F0 m pc ls rest) q9)
    (kk : ∀ (r : Int64) (u : S) (t : State) (H1 : Heap) (locs1 : List Loc), t.heap = H1 → s.vm.Alike t.vm → post r u → B u t → H.size ≤ H1.size → (∀ q : Nat, q < H.size → ¬ A1 q → H1[q]? = H[q]?) → va_S A0 H0 H1 locs1 → W p l e R s m args below meth c H1 locs1 (cells + mc) (slots + ms) Q (F0 m (pc + 3) ls (.long r :: rest))) : W p l e R s m args below meth c H locs cells slots Q (F0 m pc ls st0) := by
  intro T hT X
  rcases hr T hT X with ⟨v, st₀, t, T', L, h0, X', hL, e1, e2, ⟨⟨r, u, hv, hp, hb⟩, hF⟩, st⟩ | ⟨q, st₀, t, T', L, E, ce, h0, X', hL, e1, e2, ⟨u, hp, hb, hF⟩, hce, hcv, hcl, st⟩
  · cases hv
    obtain ⟨k1, k2, k3⟩ := vx_keep h0 e1 hS hA hf hL hF
    obtain ⟨t2, a1, b1⟩ := kk r u t T'.heap (locs ++ L) e1.symm (by rw [← e2]; exact X'.warmed.alike) hp hb k1 k2 k3 T' rfl X'
    exact ⟨t2, st t2 a1, b1⟩
  · obtain ⟨k1, k2, k3⟩ := vx_keep h0 e1 hS hAX hf hL hF
    obtain ⟨t2, a1, b1⟩ := kx E ce q u t T'.heap (locs ++ L) e1.symm (by rw [← e2]; exact X'.warmed.alike) hp hb k1 k2 k3 (by rw [e1]; exact hce) hcv hcl T' rfl X'
    exact ⟨t2, st.trans a1, b1⟩
theorem vx_callf {S SX : Type} {post : UInt32 → S → Prop} {px : SX → Prop} {B : S → State → Prop} {BX : String → SX → State → Prop} {AX : Nat → Prop} (hr : vx_Run p l e R s m args below meth c H locs cells slots mc ms (F0 m pc ls st0) rest (va_Qf post B A1 a) (vx_X px BX AX) free) (hS : va_S A0 H0 H locs) (hA : ∀ q, q < H.size → A1 q → A0 q) (hf : ∀ q, free q → A0 q) (hAX : ∀ q, q < H.size → AX q → A0 q)
    (kx : ∀ (E : String) (ce : Cell) (q9 : Addr) (u : SX) (t : State) (H1 : Heap) (locs1 : List Loc), t.heap = H1 → s.vm.Alike t.vm → px u → BX E u t → H.size ≤ H1.size → (∀ q : Nat, q < H.size → ¬ AX q → H1[q]? = H[q]?) → va_S A0 H0 H1 locs1 → H1[q9]? = some ce → ce.vm = .none → s.vm.findClass E = some ce.cls → vx_W p l e R s m args below meth c H1 locs1 (cells + mc) (slots + ms) Q (F0 m pc ls rest) q9)
    (kk : ∀ (r : UInt32) (u : S) (t : State) (H1 : Heap) (locs1 : List Loc), t.heap = H1 → s.vm.Alike t.vm → post r u → B u t → H.size ≤ H1.size → (∀ q : Nat, q < H.size → ¬ A1 q → H1[q]? = H[q]?) → va_S A0 H0 H1 locs1 → W p l e R s m args below meth c H1 locs1 (cells + mc) (slots + ms) Q (F0 m (pc + 3) ls (.float r :: rest))) : W p l e R s m args below meth c H locs cells slots Q (F0 m pc ls st0) := by
  intro T hT X
  rcases hr T hT X with ⟨v, st₀, t, T', L, h0, X', hL, e1, e2, ⟨⟨r, u, hv, hp, hb⟩, hF⟩, st⟩ | ⟨q, st₀, t, T', L, E, ce, h0, X', hL, e1, e2, ⟨u, hp, hb, hF⟩, hce, hcv, hcl, st⟩
  · cases hv
    obtain ⟨k1, k2, k3⟩ := vx_keep h0 e1 hS hA hf hL hF
    obtain ⟨t2, a1, b1⟩ := kk r u t T'.heap (locs ++ L) e1.symm (by rw [← e2]; exact X'.warmed.alike) hp hb k1 k2 k3 T' rfl X'
    exact ⟨t2, st t2 a1, b1⟩
  · obtain ⟨k1, k2, k3⟩ := vx_keep h0 e1 hS hAX hf hL hF
    obtain ⟨t2, a1, b1⟩ := kx E ce q u t T'.heap (locs ++ L) e1.symm (by rw [← e2]; exact X'.warmed.alike) hp hb k1 k2 k3 (by rw [e1]; exact hce) hcv hcl T' rfl X'
    exact ⟨t2, st.trans a1, b1⟩
theorem vx_calld {S SX : Type} {post : UInt64 → S → Prop} {px : SX → Prop} {B : S → State → Prop} {BX : String → SX → State → Prop} {AX : Nat → Prop} (hr : vx_Run p l e R s m args below meth c H locs cells slots mc ms (F0 m pc ls st0) rest (va_Qd post B A1 a) (vx_X px BX AX) free) (hS : va_S A0 H0 H locs) (hA : ∀ q, q < H.size → A1 q → A0 q) (hf : ∀ q, free q → A0 q) (hAX : ∀ q, q < H.size → AX q → A0 q)
    (kx : ∀ (E : String) (ce : Cell) (q9 : Addr) (u : SX) (t : State) (H1 : Heap) (locs1 : List Loc), t.heap = H1 → s.vm.Alike t.vm → px u → BX E u t → H.size ≤ H1.size → (∀ q : Nat, q < H.size → ¬ AX q → H1[q]? = H[q]?) → va_S A0 H0 H1 locs1 → H1[q9]? = some ce → ce.vm = .none → s.vm.findClass E = some ce.cls → vx_W p l e R s m args below meth c H1 locs1 (cells + mc) (slots + ms) Q (F0 m pc ls rest) q9)
    (kk : ∀ (r : UInt64) (u : S) (t : State) (H1 : Heap) (locs1 : List Loc), t.heap = H1 → s.vm.Alike t.vm → post r u → B u t → H.size ≤ H1.size → (∀ q : Nat, q < H.size → ¬ A1 q → H1[q]? = H[q]?) → va_S A0 H0 H1 locs1 → W p l e R s m args below meth c H1 locs1 (cells + mc) (slots + ms) Q (F0 m (pc + 3) ls (.double r :: rest))) : W p l e R s m args below meth c H locs cells slots Q (F0 m pc ls st0) := by
  intro T hT X
  rcases hr T hT X with ⟨v, st₀, t, T', L, h0, X', hL, e1, e2, ⟨⟨r, u, hv, hp, hb⟩, hF⟩, st⟩ | ⟨q, st₀, t, T', L, E, ce, h0, X', hL, e1, e2, ⟨u, hp, hb, hF⟩, hce, hcv, hcl, st⟩
  · cases hv
    obtain ⟨k1, k2, k3⟩ := vx_keep h0 e1 hS hA hf hL hF
    obtain ⟨t2, a1, b1⟩ := kk r u t T'.heap (locs ++ L) e1.symm (by rw [← e2]; exact X'.warmed.alike) hp hb k1 k2 k3 T' rfl X'
    exact ⟨t2, st t2 a1, b1⟩
  · obtain ⟨k1, k2, k3⟩ := vx_keep h0 e1 hS hAX hf hL hF
    obtain ⟨t2, a1, b1⟩ := kx E ce q u t T'.heap (locs ++ L) e1.symm (by rw [← e2]; exact X'.warmed.alike) hp hb k1 k2 k3 (by rw [e1]; exact hce) hcv hcl T' rfl X'
    exact ⟨t2, st.trans a1, b1⟩
theorem vx_callv {S SX : Type} {post : S → Prop} {px : SX → Prop} {B : S → State → Prop} {BX : String → SX → State → Prop} {AX : Nat → Prop} (hr : vx_Run p l e R s m args below meth c H locs cells slots mc ms (F0 m pc ls st0) rest (va_Qv post B A1 a) (vx_X px BX AX) free) (hS : va_S A0 H0 H locs) (hA : ∀ q, q < H.size → A1 q → A0 q) (hf : ∀ q, free q → A0 q) (hAX : ∀ q, q < H.size → AX q → A0 q)
    (kx : ∀ (E : String) (ce : Cell) (q9 : Addr) (u : SX) (t : State) (H1 : Heap) (locs1 : List Loc), t.heap = H1 → s.vm.Alike t.vm → px u → BX E u t → H.size ≤ H1.size → (∀ q : Nat, q < H.size → ¬ AX q → H1[q]? = H[q]?) → va_S A0 H0 H1 locs1 → H1[q9]? = some ce → ce.vm = .none → s.vm.findClass E = some ce.cls → vx_W p l e R s m args below meth c H1 locs1 (cells + mc) (slots + ms) Q (F0 m pc ls rest) q9)
    (kk : ∀ (u : S) (t : State) (H1 : Heap) (locs1 : List Loc), t.heap = H1 → s.vm.Alike t.vm → post u → B u t → H.size ≤ H1.size → (∀ q : Nat, q < H.size → ¬ A1 q → H1[q]? = H[q]?) → va_S A0 H0 H1 locs1 → W p l e R s m args below meth c H1 locs1 (cells + mc) (slots + ms) Q (F0 m (pc + 3) ls (rest))) : W p l e R s m args below meth c H locs cells slots Q (F0 m pc ls st0) := by
  intro T hT X
  rcases hr T hT X with ⟨v, st₀, t, T', L, h0, X', hL, e1, e2, ⟨⟨u, hv, hp, hb⟩, hF⟩, st⟩ | ⟨q, st₀, t, T', L, E, ce, h0, X', hL, e1, e2, ⟨u, hp, hb, hF⟩, hce, hcv, hcl, st⟩
  · cases hv
    obtain ⟨k1, k2, k3⟩ := vx_keep h0 e1 hS hA hf hL hF
    obtain ⟨t2, a1, b1⟩ := kk u t T'.heap (locs ++ L) e1.symm (by rw [← e2]; exact X'.warmed.alike) hp hb k1 k2 k3 T' rfl X'
    exact ⟨t2, st t2 a1, b1⟩
  · obtain ⟨k1, k2, k3⟩ := vx_keep h0 e1 hS hAX hf hL hF
    obtain ⟨t2, a1, b1⟩ := kx E ce q u t T'.heap (locs ++ L) e1.symm (by rw [← e2]; exact X'.warmed.alike) hp hb k1 k2 k3 (by rw [e1]; exact hce) hcv hcl T' rfl X'
    exact ⟨t2, st.trans a1, b1⟩
/-- caught by the row x of this method's table; the rows ahead don't take it -/
theorem vx_catch {own name : String} {E : String} {ce : Cell} {q : Addr} (hown : s.vm.findClass own = some m.cls) (pre : List ExceptionTableEntry) (x : ExceptionTableEntry) (suf : List ExceptionTableEntry) (hsplit : c.exceptionTable.toList = pre ++ x :: suf)
    (hpass : ∀ z ∈ pre, covers z pc = false ∨ (z.catchType ≠ 0 ∧ ∃ nm : String, (Cond.classLink own z.catchType nm).before args s = true ∧ va_Nc E nm s)) (hx : covers x pc = true) (h0 : x.catchType ≠ 0)
    (hlink : (Cond.classLink own x.catchType name).before args s = true) (hcast : (Cond.castable E name).before args s = true) (hcell : H[q]? = some ce) (hv : ce.vm = .none) (hcl : s.vm.findClass E = some ce.cls)
    (kk : W p l e R s m args below meth c H locs cells slots Q (F0 m x.handlerPc ls [.ref q])) : vx_W p l e R s m args below meth c H locs cells slots Q (F0 m pc ls rest) q := by
  intro T hT X
  have hpl : e.platform.magicAccessors = ({} : Platform).magicAccessors := by rw [X.admits.platform]
  obtain ⟨c3, c4, hc3, hc4, hasg⟩ := Cond.castable_spec hcast
  cases Option.some.inj (hc3.symm.trans hcl)
  obtain ⟨c5, hc5, hcl5⟩ := Cond.classLink_spec hown hlink e.platform hpl
  cases Option.some.inj (hc4.symm.trans hc5)
  obtain ⟨vm', X', st⟩ := X.thenCaughtThrough q (g := F0 m pc ls rest) rfl (Steps.refl _) (by rw [hT]; exact hcell) (by rw [hv]; rfl) (by obtain ⟨k9, h9, -⟩ := Vm.findClass_spec hcl; exact ⟨k9, h9⟩) pre x suf hsplit
    (fun z hz => by
      rcases hpass z hz with h | ⟨hz0, nm, hl1, hn1⟩
      · exact Or.inl h
      · obtain ⟨c6, hc6, hcl6⟩ := Cond.classLink_spec hown hl1 e.platform hpl
        obtain ⟨a8, b8, h1, h2, h3⟩ := hn1
        cases Option.some.inj (h1.symm.trans hcl)
        cases Option.some.inj (h2.symm.trans hc6)
        exact Or.inr ⟨hz0, _, hcl6, h3⟩) hx (Or.inr ⟨h0, c4, hcl5, hasg⟩)
  obtain ⟨t, a1, b1⟩ := kk (T.setVm vm') hT X'
  exact ⟨t, st.trans a1, b1⟩
end Rows
section Ends
variable {p : Program} {l : Launch} {e : Env} {R : Room} {s : State} {m : MethodId} {args : Array Value} {below : List Frame} {meth : Method} {c : Code} {H : Heap} {locs : List Loc} {cells slots : Nat} {Q : State → Prop}
variable {mc ms : Nat} {free : Addr → Prop} {A0 A1 : Nat → Prop} {H0 : Heap} {a : Array Value} {ls : Array Slot} {st0 rest : List Value}
variable {Qc : Array Value → State → Outcome → State → Prop} {XC : String → State → State → Prop}
/-- what a body that may throw owes at its end -/
def vx_MQ (below : List Frame) (Qc : Array Value → State → Outcome → State → Prop) (XC : String → State → State → Prop) (a : Array Value) (s : State) (mc ms : Nat) (free : Addr → Prop) : State → Prop := fun t =>
  ∃ o, t.status = .running ∧ Ended t below o ∧ vx_Q Qc XC mc ms free a s o t
theorem vx_ret {g : JFrame} {mc ms : Nat} (k : W p l e R s m args below meth c H locs cells slots (MQ below Qc args s mc ms free) g) : W p l e R s m args below meth c H locs cells slots (vx_MQ below Qc XC args s mc ms free) g := by
  intro T hT X
  obtain ⟨t, a1, o, b1, b2, b3, b4⟩ := k T hT X
  exact ⟨t, a1, o, b1, b2, Or.inl ⟨b3, b4⟩⟩
/-- not caught here: it goes on to the caller -/
theorem vx_widen {g : JFrame} {q : Addr} {k n : Nat} (h1 : cells ≤ k) (h2 : slots ≤ n) (kk : vx_W p l e R s m args below meth c H locs k n Q g q) : vx_W p l e R s m args below meth c H locs cells slots Q g q := fun T hT X => kk T hT (stand_widen X h1 h2)
theorem vx_out {pc : Nat} {E : String} {ce : Cell} {q : Addr} {mc ms : Nat} (hout : ∀ x ∈ c.exceptionTable.toList, covers x pc = false) (hlocks : meth.locks = false) (hcell : H[q]? = some ce) (hv : ce.vm = .none) (hcl : s.vm.findClass E = some ce.cls)
    (hx : ∀ t : State, t.heap = H → s.vm.Alike t.vm → XC E s t) (hf : ∀ z ∈ locs, free z.base) (hc : cells ≤ mc) (hs : slots ≤ ms) :
    vx_W p l e R s m args below meth c H locs cells slots (vx_MQ below Qc XC args s mc ms free) (F0 m pc ls rest) q := by
  intro T hT X
  obtain ⟨st1, hrun, hend, hW, hsm⟩ := X.leaveThrown q (g := F0 m pc ls rest) rfl rfl rfl hout hlocks
  have hcell9 : (T.setFrames (.throwing q :: below)).heap[q]? = some ce := by
    show T.heap[q]? = some ce
    rw [hT]; exact hcell
  exact ⟨_, st1, .threw q, hrun, hend, Or.inr ⟨q, rfl, E, ce, locs, hx _ hT hW.alike, hcell9, hv, hcl, hW, hsm.mono hc hs, hf⟩⟩
theorem vx_frame {U : State} {k n : Nat} (h : s.sameButNew ({ U with vm := s.vm } : State) locs k n) : s.heap.size ≤ U.heap.size ∧ ∀ q : Nat, q < s.heap.size → (∀ z ∈ locs, z.base ≠ q) → U.heap[q]? = s.heap[q]? := by
  obtain ⟨-, h2, -, -, -, h6⟩ := h
  refine ⟨h2, fun q hq hz => ?_⟩
  obtain ⟨c9, e1, e2, e3, e4⟩ := h6 q _ (Array.getElem?_eq_getElem hq)
  have hs : c9.slots = (s.heap[q]).slots := Array.ext_getElem? fun i => e4 i fun hm => hz _ hm rfl
  have h9 : c9 = s.heap[q] := by
    rw [hs] at e2
    exact e2
  have e5 : U.heap[q]? = some c9 := e1
  rw [e5, h9, Array.getElem?_eq_getElem hq]
/-- the words of a throw but the four that speak of the heap -/
def vx_no (w : Cond) : Bool := decide (w ≠ .isRef (.static Bundle.tN "UNASSIGNED_STACK" Bundle.steD)) && decide (w ≠ .isRef (.static Bundle.tN "SUPPRESSED_SENTINEL" Bundle.listD)) && decide (w ≠ .laysStatic Bundle.tN "UNASSIGNED_STACK" Bundle.steD) && decide (w ≠ .laysStatic Bundle.tN "SUPPRESSED_SENTINEL" Bundle.listD)
def vx_at0 (own : String) (ic : Nat) (X : String) (names : List String) : List Cond := (Bundle.ownAtoms0 own ic X names).filter vx_no
def vx_atS (own : String) (ic : Nat) (X : String) (names : List String) : List Cond := (Bundle.ownAtoms own ic X names).filter vx_no
/-- a word that the tables alone decide, or a good one -/
def vx_ot (w : Cond) : Bool := w.onTables || goodWord w
theorem vx_ot_at {args a' : Array Value} {s U : State} {w : Cond} (hW : s.WarmedH U.vm) (hvm : s.vm = U.vm) (hg : vx_ot w = true) (h : w.before args s = true) : w.before a' U = true := by
  simp only [vx_ot, Bool.or_eq_true] at hg
  rcases hg with hg | hg
  · exact va_tabs hg hvm h
  · exact word_at hW (good_of_word hg) h
/-- a list's words: the good ones out of the method's own list, the others by premises of their own -/
theorem vx_hat {args : Array Value} {s : State} {L B : List Cond} (h1 : ∀ w ∈ L.filter goodWord, w.before args s = true) (h2 : ∀ w ∈ L.filter (fun w => !goodWord w), w ∈ B) (h3 : ∀ w ∈ B, w.before args s = true) : ∀ w ∈ L, w.before args s = true := by
  intro w hw
  by_cases g : goodWord w = true
  · exact h1 w (List.mem_filter.mpr ⟨hw, g⟩)
  · refine h3 w (h2 w (List.mem_filter.mpr ⟨hw, ?_⟩))
    show (!goodWord w) = true
    cases hgw : goodWord w
    · rfl
    · exact absurd hgw g
theorem vx_c {args : Array Value} {s : State} {w : Cond} {B : List Cond} (h : w.before args s = true) (t : ∀ w ∈ B, w.before args s = true) : ∀ w' ∈ w :: B, w'.before args s = true := fun w' h' => (List.mem_cons.mp h').elim (fun e => by rw [e]; exact h) (t w')
theorem vx_n {args : Array Value} {s : State} : ∀ w ∈ ([] : List Cond), w.before args s = true := fun _ h => nomatch h
theorem vx_own {args : Array Value} {s : State} {L : List Cond} (h1 : ∀ w ∈ L.filter vx_no, w.before args s = true)
    (hU : (Cond.isRef (.static Bundle.tN "UNASSIGNED_STACK" Bundle.steD)).before args s = true) (hN : (Cond.isRef (.static Bundle.tN "SUPPRESSED_SENTINEL" Bundle.listD)).before args s = true)
    (lU : (Cond.laysStatic Bundle.tN "UNASSIGNED_STACK" Bundle.steD).before args s = true) (lN : (Cond.laysStatic Bundle.tN "SUPPRESSED_SENTINEL" Bundle.listD).before args s = true) : ∀ w ∈ L, w.before args s = true := by
  intro w hw
  by_cases e1 : w = .isRef (.static Bundle.tN "UNASSIGNED_STACK" Bundle.steD)
  · rw [e1]; exact hU
  · by_cases e2 : w = .isRef (.static Bundle.tN "SUPPRESSED_SENTINEL" Bundle.listD)
    · rw [e2]; exact hN
    · by_cases e3 : w = .laysStatic Bundle.tN "UNASSIGNED_STACK" Bundle.steD
      · rw [e3]; exact lU
      · by_cases e4 : w = .laysStatic Bundle.tN "SUPPRESSED_SENTINEL" Bundle.listD
        · rw [e4]; exact lN
        · exact h1 w (List.mem_filter.mpr ⟨hw, by unfold vx_no; rw [decide_eq_true e1, decide_eq_true e2, decide_eq_true e3, decide_eq_true e4]; rfl⟩)
/-- where a static field lies, its class's statics cell in H -/
def vx_L (C n d : String) (A : Nat → Prop) (U : State) (H : Heap) : Prop := ∃ (c : ClassId) (k : Class) (i : Nat) (f : Field) (a : Nat) (cell : Cell), U.vm.findClass C = some c ∧ U.fieldFound? C n d = some (c, k, i, f) ∧ f.isStatic = true ∧ k.statics = some a ∧ H[a]? = some cell ∧ cell.vm.isStatics = true ∧ cell.cls = c ∧ f.slot < cell.slots.size ∧ k.staticTypes[f.slot]? = some f.type ∧ ¬ A a
theorem vx_L.moved {C n d : String} {A : Nat → Prop} {u U : State} {H : Heap} (hvm : u.vm.Alike U.vm) (h : vx_L C n d A u H) : vx_L C n d A U H := by
  obtain ⟨c, k, i, f, a, cell, h1, h2, h3, h4, h5, h6, h7, h8, h9, h10⟩ := h
  obtain ⟨k', hi', he⟩ := State.fieldFound?_setVm hvm h2
  exact ⟨c, k', i, f, a, cell, by rw [hvm.findClass]; exact h1, hi', h3, by rw [he]; exact h4, h5, h6, h7, h8, by rw [he]; exact h9, h10⟩
theorem vx_L.kept {C n d : String} {A : Nat → Prop} {U : State} {H H1 : Heap} (h : vx_L C n d A U H) (hq : ∀ a : Nat, a < H.size → ¬ A a → H1[a]? = H[a]?) : vx_L C n d A U H1 := by
  obtain ⟨c, k, i, f, a, cell, h1, h2, h3, h4, h5, h6, h7, h8, h9, h10⟩ := h
  exact ⟨c, k, i, f, a, cell, h1, h2, h3, h4, by rw [hq a (Array.getElem?_eq_some_iff.mp h5).1 h10]; exact h5, h6, h7, h8, h9, h10⟩
theorem vx_L.narrow {C n d : String} {A B : Nat → Prop} {U : State} {H : Heap} (h : vx_L C n d A U H) (hAB : ∀ q, B q → A q) : vx_L C n d B U H := by
  obtain ⟨c, k, i, f, a, cell, h1, h2, h3, h4, h5, h6, h7, h8, h9, h10⟩ := h
  exact ⟨c, k, i, f, a, cell, h1, h2, h3, h4, h5, h6, h7, h8, h9, fun z => h10 (hAB _ z)⟩
theorem vx_L.word {C n d : String} {A : Nat → Prop} {s : State} {args : Array Value} (h : vx_L C n d A s s.heap) : (Cond.laysStatic C n d).before args s = true := by
  obtain ⟨c, k, i, f, a, cell, h1, h2, h3, h4, h5, h6, h7, h8, h9, -⟩ := h
  show (Cond.laysStatic C n d).holds args s none s [] = true
  exact Cond.laysStatic_of h1 h2 h3 h4 h5 h6 h7 h8 h9
/-- .. and what it holds: null or some reference -/
def vx_Zq (C n d : String) (A : Nat → Prop) (U : State) (H : Heap) : Prop := va_Zq C n d A U H ∧ vx_L C n d A U H
theorem vx_Zq.moved {C n d : String} {A : Nat → Prop} {u U : State} {H : Heap} (hvm : u.vm.Alike U.vm) (h : vx_Zq C n d A u H) : vx_Zq C n d A U H := ⟨va_Zq.moved hvm h.1, vx_L.moved hvm h.2⟩
theorem vx_Zq.kept {C n d : String} {A : Nat → Prop} {U : State} {H H1 : Heap} (h : vx_Zq C n d A U H) (hq : ∀ a : Nat, a < H.size → ¬ A a → H1[a]? = H[a]?) : vx_Zq C n d A U H1 := ⟨va_Zq.kept h.1 hq, vx_L.kept h.2 hq⟩
theorem vx_Zq.narrow {C n d : String} {A B : Nat → Prop} {U : State} {H : Heap} (h : vx_Zq C n d A U H) (hAB : ∀ q, B q → A q) : vx_Zq C n d B U H := ⟨va_Zq.narrow h.1 hAB, vx_L.narrow h.2 hAB⟩
theorem vx_Zqof {args : Array Value} {s : State} {C n d : String} {A : Nat → Prop} (hl : (Cond.laysStatic C n d).before args s = true) (hini : (Cond.initialized C).before args s = true) (h : (Cond.isRef (.static C n d)).before args s = true) (hA : ∀ a : Nat, a < s.heap.size → ¬ A a) : vx_Zq C n d A s s.heap := by
  refine ⟨va_Zqof hl hini h hA, ?_⟩
  obtain ⟨c, k, i, f, a, cell, h1, h2, h3, h4, h5, h6, h7, h8, h9⟩ := Cond.laysStatic_spec hl
  exact ⟨c, k, i, f, a, cell, h1, h2, h3, h4, h5, h6, h7, h8, h9, hA a (Array.getElem?_eq_some_iff.mp h5).1⟩
theorem vx_isRef {C n d : String} {v : Value} {A : Nat → Prop} {s : State} {args : Array Value} (h : va_Z C n d v A s s.heap) (hv : v.isRef = true) : (Cond.isRef (.static C n d)).before args s = true := by
  obtain ⟨cf, kf, fi, f, a, cell, h1, h2, h3, h4, h5, h6, h7, -⟩ := h
  have he : (Term.static C n d).eval args s none [] s = some v := by
    simp [Term.eval, State.fieldNamed?, h1, h2, h4, h5, h6, h7]
  simp only [Cond.before, Cond.holds, Cond.value, he]
  cases v <;> simp_all [Value.isRef]
theorem vx_isRefq {C n d : String} {A : Nat → Prop} {s : State} {args : Array Value} (h : va_Zq C n d A s s.heap) : (Cond.isRef (.static C n d)).before args s = true := by
  rcases h with h | ⟨t, h⟩
  · exact vx_isRef h rfl
  · exact vx_isRef h rfl
/-- the same frame, seen from here: as if the method were called anew in this heap -/
theorem vx_rebase {T : State} (X : Stand p l e R s m args below meth c T locs cells slots) {R' : Room} (hf : R'.frames ≤ R.frames) (hl : R'.locals ≤ R.locals) (hc : cells + R'.cells ≤ R.cells) (hs : slots + R'.slots ≤ R.slots) :
    Stand p l e R' ((T.setVm s.vm).setFrames (.invoking m args :: below)) m args below meth c T [] 0 0 := by
  have htop : (T.setVm s.vm).topJava?.isSome := X.here.top
  have hF : ((T.setVm s.vm).setFrames (.invoking m args :: below)).frames = .invoking m args :: below := State.frames_setFrames _ (State.cur_lt_of_top htop)
  obtain ⟨g₀, hg0⟩ := Option.isSome_iff_exists.mp htop
  obtain ⟨r, hr⟩ := State.topJava?_eq_some.mp hg0
  have hl9 : e.platform.stackLimits (T.setVm s.vm).me = e.platform.stackLimits s.me := X.limits
  have hb9 : (T.setVm s.vm).me.stackBytes = s.me.stackBytes := X.bytes
  refine ⟨X.admits, X.cas, X.clock, hF, ?_, X.hears, X.method, X.code, X.here, X.tail, X.warmed, ?_, ?_, ?_⟩
  · have h := X.room
    have hU : ((T.setVm s.vm).setFrames (.invoking m args :: below)).localsInUse = s.localsInUse := by
      rw [State.localsInUse_invoking hF (meth := meth) (c := c) X.method X.code, State.localsInUse_invoking X.frames X.method X.code]
    simp only [State.hasRoom, Bool.and_eq_true, decide_eq_true_eq] at h ⊢
    obtain ⟨⟨⟨⟨h1, h2, h3, h4, h5, h6⟩, h7⟩, h8⟩, h9⟩ := h
    rw [X.frames, List.length_cons] at h2 h3
    have q1 := X.heapSize
    have q2 := X.used
    simp only [hF, hU, List.length_cons, State.stackLimits_setFrames, State.stackBytes_setFrames, hl9, hb9]
    refine ⟨⟨⟨⟨by omega, by omega, by omega, by omega, by omega, h6⟩, ?_⟩, ?_⟩, X.book⟩
    · show T.heap.size + R'.cells ≤ e.platform.maxCells
      omega
    · show T.slotsUsed + R'.slots ≤ e.platform.maxSlots
      omega
  · rw [State.stackLimits_setFrames]; rfl
  · rw [State.stackBytes_setFrames]; rfl
  · refine ⟨?_, Nat.le_refl _, Nat.le_refl _, ?_, ?_, fun a c9 h9 => ⟨c9, h9, rfl, rfl, fun _ _ => rfl⟩⟩
    · obtain ⟨t, ht, -⟩ := State.frames_cons hr
      show T.setVm s.vm = { ((T.setVm s.vm).setFrames (.invoking m args :: below)).setFrames (T.setVm s.vm).frames with heap := T.heap, slotsUsed := T.slotsUsed }
      rw [State.setFrames_setFrames, State.setFrames_self ht]
      rfl
    · show T.slotsUsed = T.slotsUsed + ((T.heap.toList.drop T.heap.size).map (·.slots.size)).sum
      rw [List.drop_eq_nil_of_le (Nat.le_of_eq Array.length_toList)]
      rfl
    · show ((T.heap.toList.drop T.heap.size).map (·.slots.size)).sum ≤ 0
      rw [List.drop_eq_nil_of_le (Nat.le_of_eq Array.length_toList)]
      exact Nat.le_refl _
/-- 'throw new E()': new; dup; invokespecial; athrow -/
theorem vx_throw0 {cc : ByteArray} {pc : Nat} (hexec : p.tables.exec = Jvm.exec) (hb : c.code = cc) (hl : l.stackTraces = false) {own cls : String} {names : List String} {ik ic mc ms : Nat} {A : Nat → Prop}
    (hown : s.vm.findClass own = some m.cls) (hcls : Bundle.fit cls = true) (hnames : ∀ n ∈ names, Bundle.fit n = true)
    (hk : (Cond.classLink own ik cls).before args s = true) (hini : (Cond.initialized cls).before args s = true) (hat : ∀ w ∈ vx_at0 own ic cls names, w.before args s = true)
    (hgood : ∀ w ∈ Cond.classLink own ik cls :: Cond.initialized cls :: vx_at0 own ic cls names, vx_ot w = true)
    (hU : vx_Zq Bundle.tN "UNASSIGNED_STACK" Bundle.steD A s s.heap) (hN : vx_Zq Bundle.tN "SUPPRESSED_SENTINEL" Bundle.listD A s s.heap) (hS : va_S A s.heap H locs) (hsize : ls.size = c.maxLocals)
    (d0 : decode cc pc = .ok (.new ik, 3)) (d3 : decode cc (pc + 3) = .ok (.dup, 1)) (d4 : decode cc (pc + 4) = .ok (.invokespecial ic, 3)) (d7 : decode cc (pc + 7) = .ok (.athrow, 1))
    (hout : ∀ x ∈ c.exceptionTable.toList, covers x (pc + 7) = false)
    (hRframes : names.length + 3 < R.frames) (hRlocals : (rest.map fun v => v.category).sum + (13 * (names.length + 1) + 42) ≤ R.locals) (hRcells : cells + 1 ≤ R.cells) (hRslots : slots + 6 ≤ R.slots) (hlocks : meth.locks = false)
    (hx : ∀ t : State, s.vm.Alike t.vm → H.size ≤ t.heap.size → (∀ q : Nat, q < H.size → t.heap[q]? = H[q]?) → XC cls s t)
    (hf : ∀ z ∈ locs, free z.base) (hc : cells + 1 ≤ mc) (hs : slots + 6 ≤ ms) :
    W p l e R s m args below meth c H locs cells slots (vx_MQ below Qc XC args s mc ms free) (F0 m pc ls rest) := by
  intro T hT X
  have htr : e.platform.stackTraces = false := (show e.platform.stackTraces = l.stackTraces by rw [X.admits.platform]).trans hl
  have Y := vx_rebase X (R' := { frames := R.frames, locals := R.locals, cells := 1, slots := 6 }) (Nat.le_refl _) (Nat.le_refl _) hRcells hRslots
  obtain ⟨s', hA⟩ : ∃ z, z = (T.setVm s.vm).setFrames (.invoking m args :: below) := ⟨_, rfl⟩
  rw [← hA] at Y
  have hvm : s'.vm = s.vm := by rw [hA]; rfl
  have hhp : s'.heap = H := by rw [hA]; exact hT
  have hW0 : s.WarmedH s'.vm := by rw [hvm]; exact State.WarmedH.refl s
  have hat' : ∀ w ∈ vx_at0 own ic cls names, w.before args s' = true := fun w hw => vx_ot_at hW0 hvm.symm (hgood w (List.mem_cons_of_mem _ (List.mem_cons_of_mem _ hw))) (hat w hw)
  have hk' : (Cond.classLink own ik cls).before args s' = true := vx_ot_at hW0 hvm.symm (hgood _ List.mem_cons_self) hk
  have hini' : (Cond.initialized cls).before args s' = true := vx_ot_at hW0 hvm.symm (hgood _ (List.mem_cons_of_mem _ List.mem_cons_self)) hini
  have hU' : vx_Zq Bundle.tN "UNASSIGNED_STACK" Bundle.steD A s' s'.heap := by rw [hhp]; exact vx_Zq.moved hW0.alike (hU.kept hS.2.1)
  have hN' : vx_Zq Bundle.tN "SUPPRESSED_SENTINEL" Bundle.listD A s' s'.heap := by rw [hhp]; exact vx_Zq.moved hW0.alike (hN.kept hS.2.1)
  have h : ∀ w ∈ Bundle.ownAtoms0 own ic cls names, w.before args s' = true := vx_own hat' (vx_isRefq hU'.1) (vx_isRefq hN'.1) hU'.2.word hN'.2.word
  have hown' : s'.vm.findClass own = some m.cls := by rw [hvm]; exact hown
  have hins : (Cond.instantiable cls 6).before args s' = true := h _ (by simp [Bundle.ownAtoms0])
  obtain ⟨vm₁, cX, kX, hfX, hkX, -, -, X₁, st1⟩ := Y.newCold hexec (own := own) (C := cls) (index := ik) (n := 6) hown' hk' hins hini'
    (g := F0 m pc ls rest) rfl (by rw [hb]; exact d0) (Nat.le_refl _) (Nat.le_refl _)
  generalize hT1 : (T.setVm vm₁).pushCell { cls := cX, slots := kX.instanceTypes.map defaultValue, vm := .none } = T1 at X₁ st1
  have hcat : (Value.ref T.heap.size).category = 1 := rfl
  have hcellA : T1.heap[T.heap.size]? = some (freshCell cX kX) := by rw [← hT1]; exact State.heap_pushCell_size _ _
  have d3' : decode c.code (pc + 3) = .ok (.dup, 1) := by rw [hb]; exact d3
  obtain ⟨U, hsteps, hrun, hend, hW, hsame, ce, hce, hO⟩ := X₁.ctorThrow0 hexec htr (own := own) (cls := cls) (names := names) (ic := ic) hown' hcls hnames h (fun x hx => nomatch hx) hfX hkX hcellA (by rw [hhp, hT]; exact Nat.le_refl _)
    (g := { method := m, pc := pc + 4, locals := ls, stack := .ref T.heap.size :: .ref T.heap.size :: rest, locked := none }) rfl hsize rfl rfl (rest := rest) rfl
    (by rw [hb]; exact d4) (by rw [hb]; exact d7) hout hRframes (by simp only [List.map_cons, List.sum_cons, hcat]; omega) hlocks
  obtain ⟨f1, f2⟩ := vx_frame hsame
  rw [hhp] at f1 f2
  have hWs : s.WarmedH U.vm := State.WarmedH.trans hW0 hW
  have hcl : s.vm.findClass cls = some ce.cls := by
    have h9 := hO.cls
    rw [hvm] at h9
    exact h9
  have hall : s.sameButNew ({ U with vm := s.vm } : State) locs mc ms := by
    subst hA
    obtain ⟨e1, e2⟩ := hsame
    rw [State.setFrames_setFrames] at e1
    have h2 : (T.setVm s.vm).sameButNew ({ U with vm := s.vm } : State) [] (0 + 1) (0 + 6) := ⟨e1, e2⟩
    have h3 := X.same.trans h2
    rw [List.append_nil] at h3
    exact h3.mono hc hs
  refine ⟨U, ?_, .threw T.heap.size, hrun, hend, Or.inr ⟨T.heap.size, rfl, cls, ce, locs, hx U hWs.alike f1 (fun q hq => f2 q hq (fun z hz => nomatch hz)), hce, hO.vm, hcl, hWs, hall, hf⟩⟩
  refine st1 _ ?_
  show Steps p.tables e below (T1.setTop { method := m, pc := pc + 3, locals := ls, stack := .ref T.heap.size :: rest, locked := none }) _
  jvm_step X₁.here [X₁.here.top, hexec, d3', Value.category]
  exact hsteps
/-- 'throw new E("text")': new; dup; ldc; invokespecial; athrow -/
theorem vx_throwS {cc : ByteArray} {pc : Nat} (hexec : p.tables.exec = Jvm.exec) (hb : c.code = cc) (hl : l.stackTraces = false) {own cls text : String} {names : List String} {ik is ic mc ms sa : Nat} {A : Nat → Prop}
    (hown : s.vm.findClass own = some m.cls) (hcls : Bundle.fit cls = true) (hnames : ∀ n ∈ names, Bundle.fit n = true)
    (hk : (Cond.classLink own ik cls).before args s = true) (hini : (Cond.initialized cls).before args s = true) (hstr : vk_R own is text sa s) (hat : ∀ w ∈ vx_atS own ic cls names, w.before args s = true)
    (hgood : ∀ w ∈ Cond.classLink own ik cls :: Cond.initialized cls :: vx_atS own ic cls names, vx_ot w = true)
    (hU : vx_Zq Bundle.tN "UNASSIGNED_STACK" Bundle.steD A s s.heap) (hN : vx_Zq Bundle.tN "SUPPRESSED_SENTINEL" Bundle.listD A s s.heap) (hS : va_S A s.heap H locs) (hsize : ls.size = c.maxLocals)
    (d0 : decode cc pc = .ok (.new ik, 3)) (d3 : decode cc (pc + 3) = .ok (.dup, 1)) (d4 : decode cc (pc + 4) = .ok (.ldc is, 2)) (d6 : decode cc (pc + 6) = .ok (.invokespecial ic, 3)) (d9 : decode cc (pc + 9) = .ok (.athrow, 1))
    (hout : ∀ x ∈ c.exceptionTable.toList, covers x (pc + 9) = false)
    (hRframes : names.length + 3 < R.frames) (hRlocals : (rest.map fun v => v.category).sum + (13 * (names.length + 1) + 43) ≤ R.locals) (hRcells : cells + 1 ≤ R.cells) (hRslots : slots + 6 ≤ R.slots) (hlocks : meth.locks = false)
    (hx : ∀ t : State, s.vm.Alike t.vm → H.size ≤ t.heap.size → (∀ q : Nat, q < H.size → t.heap[q]? = H[q]?) → XC cls s t)
    (hf : ∀ z ∈ locs, free z.base) (hc : cells + 1 ≤ mc) (hs : slots + 6 ≤ ms) :
    W p l e R s m args below meth c H locs cells slots (vx_MQ below Qc XC args s mc ms free) (F0 m pc ls rest) := by
  intro T hT X
  have htr : e.platform.stackTraces = false := (show e.platform.stackTraces = l.stackTraces by rw [X.admits.platform]).trans hl
  have Y := vx_rebase X (R' := { frames := R.frames, locals := R.locals, cells := 1, slots := 6 }) (Nat.le_refl _) (Nat.le_refl _) hRcells hRslots
  obtain ⟨s', hA⟩ : ∃ z, z = (T.setVm s.vm).setFrames (.invoking m args :: below) := ⟨_, rfl⟩
  rw [← hA] at Y
  have hvm : s'.vm = s.vm := by rw [hA]; rfl
  have hhp : s'.heap = H := by rw [hA]; exact hT
  have hW0 : s.WarmedH s'.vm := by rw [hvm]; exact State.WarmedH.refl s
  have hat' : ∀ w ∈ vx_atS own ic cls names, w.before args s' = true := fun w hw => vx_ot_at hW0 hvm.symm (hgood w (List.mem_cons_of_mem _ (List.mem_cons_of_mem _ hw))) (hat w hw)
  have hk' : (Cond.classLink own ik cls).before args s' = true := vx_ot_at hW0 hvm.symm (hgood _ List.mem_cons_self) hk
  have hini' : (Cond.initialized cls).before args s' = true := vx_ot_at hW0 hvm.symm (hgood _ (List.mem_cons_of_mem _ List.mem_cons_self)) hini
  have hU' : vx_Zq Bundle.tN "UNASSIGNED_STACK" Bundle.steD A s' s'.heap := by rw [hhp]; exact vx_Zq.moved hW0.alike (hU.kept hS.2.1)
  have hN' : vx_Zq Bundle.tN "SUPPRESSED_SENTINEL" Bundle.listD A s' s'.heap := by rw [hhp]; exact vx_Zq.moved hW0.alike (hN.kept hS.2.1)
  have h : ∀ w ∈ Bundle.ownAtoms own ic cls names, w.before args s' = true := vx_own hat' (vx_isRefq hU'.1) (vx_isRefq hN'.1) hU'.2.word hN'.2.word
  have hown' : s'.vm.findClass own = some m.cls := by rw [hvm]; exact hown
  have hins : (Cond.instantiable cls 6).before args s' = true := h _ (by simp [Bundle.ownAtoms])
  obtain ⟨vm₁, cX, kX, hfX, hkX, -, -, X₁, st1⟩ := Y.newCold hexec (own := own) (C := cls) (index := ik) (n := 6) hown' hk' hins hini'
    (g := F0 m pc ls rest) rfl (by rw [hb]; exact d0) (Nat.le_refl _) (Nat.le_refl _)
  generalize hT1 : (T.setVm vm₁).pushCell { cls := cX, slots := kX.instanceTypes.map defaultValue, vm := .none } = T1 at X₁ st1
  have hcat : (Value.ref T.heap.size).category = 1 := rfl
  have hcellA : T1.heap[T.heap.size]? = some (freshCell cX kX) := by rw [← hT1]; exact State.heap_pushCell_size _ _
  have d3' : decode c.code (pc + 3) = .ok (.dup, 1) := by rw [hb]; exact d3
  have d4' : decode c.code (pc + 4) = .ok (.ldc is, 2) := by rw [hb]; exact d4
  have hstr' : vk_R own is text sa s' := vk_R.warm hW0 hstr
  obtain ⟨U, hsteps, hrun, hend, hW, hsame, ce, hce, hO⟩ := X₁.ctorThrowS hexec htr (own := own) (cls := cls) (names := names) (ic := ic) hown' hcls hnames h (fun x hx => nomatch hx) hfX hkX hcellA (by rw [hhp, hT]; exact Nat.le_refl _) (msg := .ref sa) rfl
    (g := { method := m, pc := pc + 6, locals := ls, stack := .ref sa :: .ref T.heap.size :: .ref T.heap.size :: rest, locked := none }) rfl hsize rfl rfl (rest := rest) rfl
    (by rw [hb]; exact d6) (by rw [hb]; exact d9) hout hRframes (by simp only [List.map_cons, List.sum_cons, hcat]; omega) hlocks
  obtain ⟨f1, f2⟩ := vx_frame hsame
  rw [hhp] at f1 f2
  have hWs : s.WarmedH U.vm := State.WarmedH.trans hW0 hW
  have hcl : s.vm.findClass cls = some ce.cls := by
    have h9 := hO.cls
    rw [hvm] at h9
    exact h9
  have hall : s.sameButNew ({ U with vm := s.vm } : State) locs mc ms := by
    subst hA
    obtain ⟨e1, e2⟩ := hsame
    rw [State.setFrames_setFrames] at e1
    have h2 : (T.setVm s.vm).sameButNew ({ U with vm := s.vm } : State) [] (0 + 1) (0 + 6) := ⟨e1, e2⟩
    have h3 := X.same.trans h2
    rw [List.append_nil] at h3
    exact h3.mono hc hs
  refine ⟨U, ?_, .threw T.heap.size, hrun, hend, Or.inr ⟨T.heap.size, rfl, cls, ce, locs, hx U hWs.alike f1 (fun q hq => f2 q hq (fun z hz => nomatch hz)), hce, hO.vm, hcl, hWs, hall, hf⟩⟩
  refine st1 _ ?_
  show Steps p.tables e below (T1.setTop { method := m, pc := pc + 3, locals := ls, stack := .ref T.heap.size :: rest, locked := none }) _
  jvm_step X₁.here [X₁.here.top, hexec, d3', Value.category]
  exact X₁.ldcString hexec (own := own) (text := text) (index := is) (a := sa) hown' hstr'.1 hstr'.2
    (g := { method := m, pc := pc + 4, locals := ls, stack := .ref T.heap.size :: .ref T.heap.size :: rest, locked := none }) rfl d4' _ hsteps
/-- 'throw new E("text")', the text by a wide index -/
theorem vx_throwSW {cc : ByteArray} {pc : Nat} (hexec : p.tables.exec = Jvm.exec) (hb : c.code = cc) (hl : l.stackTraces = false) {own cls text : String} {names : List String} {ik is ic mc ms sa : Nat} {A : Nat → Prop}
    (hown : s.vm.findClass own = some m.cls) (hcls : Bundle.fit cls = true) (hnames : ∀ n ∈ names, Bundle.fit n = true)
    (hk : (Cond.classLink own ik cls).before args s = true) (hini : (Cond.initialized cls).before args s = true) (hstr : vk_R own is text sa s) (hat : ∀ w ∈ vx_atS own ic cls names, w.before args s = true)
    (hgood : ∀ w ∈ Cond.classLink own ik cls :: Cond.initialized cls :: vx_atS own ic cls names, vx_ot w = true)
    (hU : vx_Zq Bundle.tN "UNASSIGNED_STACK" Bundle.steD A s s.heap) (hN : vx_Zq Bundle.tN "SUPPRESSED_SENTINEL" Bundle.listD A s s.heap) (hS : va_S A s.heap H locs) (hsize : ls.size = c.maxLocals)
    (d0 : decode cc pc = .ok (.new ik, 3)) (d3 : decode cc (pc + 3) = .ok (.dup, 1)) (d4 : decode cc (pc + 4) = .ok (.ldc_w is, 3)) (d7 : decode cc (pc + 7) = .ok (.invokespecial ic, 3)) (d10 : decode cc (pc + 10) = .ok (.athrow, 1))
    (hout : ∀ x ∈ c.exceptionTable.toList, covers x (pc + 10) = false)
    (hRframes : names.length + 3 < R.frames) (hRlocals : (rest.map fun v => v.category).sum + (13 * (names.length + 1) + 43) ≤ R.locals) (hRcells : cells + 1 ≤ R.cells) (hRslots : slots + 6 ≤ R.slots) (hlocks : meth.locks = false)
    (hx : ∀ t : State, s.vm.Alike t.vm → H.size ≤ t.heap.size → (∀ q : Nat, q < H.size → t.heap[q]? = H[q]?) → XC cls s t)
    (hf : ∀ z ∈ locs, free z.base) (hc : cells + 1 ≤ mc) (hs : slots + 6 ≤ ms) :
    W p l e R s m args below meth c H locs cells slots (vx_MQ below Qc XC args s mc ms free) (F0 m pc ls rest) := by
  intro T hT X
  have htr : e.platform.stackTraces = false := (show e.platform.stackTraces = l.stackTraces by rw [X.admits.platform]).trans hl
  have Y := vx_rebase X (R' := { frames := R.frames, locals := R.locals, cells := 1, slots := 6 }) (Nat.le_refl _) (Nat.le_refl _) hRcells hRslots
  obtain ⟨s', hA⟩ : ∃ z, z = (T.setVm s.vm).setFrames (.invoking m args :: below) := ⟨_, rfl⟩
  rw [← hA] at Y
  have hvm : s'.vm = s.vm := by rw [hA]; rfl
  have hhp : s'.heap = H := by rw [hA]; exact hT
  have hW0 : s.WarmedH s'.vm := by rw [hvm]; exact State.WarmedH.refl s
  have hat' : ∀ w ∈ vx_atS own ic cls names, w.before args s' = true := fun w hw => vx_ot_at hW0 hvm.symm (hgood w (List.mem_cons_of_mem _ (List.mem_cons_of_mem _ hw))) (hat w hw)
  have hk' : (Cond.classLink own ik cls).before args s' = true := vx_ot_at hW0 hvm.symm (hgood _ List.mem_cons_self) hk
  have hini' : (Cond.initialized cls).before args s' = true := vx_ot_at hW0 hvm.symm (hgood _ (List.mem_cons_of_mem _ List.mem_cons_self)) hini
  have hU' : vx_Zq Bundle.tN "UNASSIGNED_STACK" Bundle.steD A s' s'.heap := by rw [hhp]; exact vx_Zq.moved hW0.alike (hU.kept hS.2.1)
  have hN' : vx_Zq Bundle.tN "SUPPRESSED_SENTINEL" Bundle.listD A s' s'.heap := by rw [hhp]; exact vx_Zq.moved hW0.alike (hN.kept hS.2.1)
  have h : ∀ w ∈ Bundle.ownAtoms own ic cls names, w.before args s' = true := vx_own hat' (vx_isRefq hU'.1) (vx_isRefq hN'.1) hU'.2.word hN'.2.word
  have hown' : s'.vm.findClass own = some m.cls := by rw [hvm]; exact hown
  have hins : (Cond.instantiable cls 6).before args s' = true := h _ (by simp [Bundle.ownAtoms])
  obtain ⟨vm₁, cX, kX, hfX, hkX, -, -, X₁, st1⟩ := Y.newCold hexec (own := own) (C := cls) (index := ik) (n := 6) hown' hk' hins hini'
    (g := F0 m pc ls rest) rfl (by rw [hb]; exact d0) (Nat.le_refl _) (Nat.le_refl _)
  generalize hT1 : (T.setVm vm₁).pushCell { cls := cX, slots := kX.instanceTypes.map defaultValue, vm := .none } = T1 at X₁ st1
  have hcat : (Value.ref T.heap.size).category = 1 := rfl
  have hcellA : T1.heap[T.heap.size]? = some (freshCell cX kX) := by rw [← hT1]; exact State.heap_pushCell_size _ _
  have d3' : decode c.code (pc + 3) = .ok (.dup, 1) := by rw [hb]; exact d3
  have d4' : decode c.code (pc + 4) = .ok (.ldc_w is, 3) := by rw [hb]; exact d4
  have hstr' : vk_R own is text sa s' := vk_R.warm hW0 hstr
  obtain ⟨U, hsteps, hrun, hend, hW, hsame, ce, hce, hO⟩ := X₁.ctorThrowS hexec htr (own := own) (cls := cls) (names := names) (ic := ic) hown' hcls hnames h (fun x hx => nomatch hx) hfX hkX hcellA (by rw [hhp, hT]; exact Nat.le_refl _) (msg := .ref sa) rfl
    (g := { method := m, pc := pc + 7, locals := ls, stack := .ref sa :: .ref T.heap.size :: .ref T.heap.size :: rest, locked := none }) rfl hsize rfl rfl (rest := rest) rfl
    (by rw [hb]; exact d7) (by rw [hb]; exact d10) hout hRframes (by simp only [List.map_cons, List.sum_cons, hcat]; omega) hlocks
  obtain ⟨f1, f2⟩ := vx_frame hsame
  rw [hhp] at f1 f2
  have hWs : s.WarmedH U.vm := State.WarmedH.trans hW0 hW
  have hcl : s.vm.findClass cls = some ce.cls := by
    have h9 := hO.cls
    rw [hvm] at h9
    exact h9
  have hall : s.sameButNew ({ U with vm := s.vm } : State) locs mc ms := by
    subst hA
    obtain ⟨e1, e2⟩ := hsame
    rw [State.setFrames_setFrames] at e1
    have h2 : (T.setVm s.vm).sameButNew ({ U with vm := s.vm } : State) [] (0 + 1) (0 + 6) := ⟨e1, e2⟩
    have h3 := X.same.trans h2
    rw [List.append_nil] at h3
    exact h3.mono hc hs
  refine ⟨U, ?_, .threw T.heap.size, hrun, hend, Or.inr ⟨T.heap.size, rfl, cls, ce, locs, hx U hWs.alike f1 (fun q hq => f2 q hq (fun z hz => nomatch hz)), hce, hO.vm, hcl, hWs, hall, hf⟩⟩
  refine st1 _ ?_
  show Steps p.tables e below (T1.setTop { method := m, pc := pc + 3, locals := ls, stack := .ref T.heap.size :: rest, locked := none }) _
  jvm_step X₁.here [X₁.here.top, hexec, d3', Value.category]
  exact X₁.ldcStringW hexec (own := own) (text := text) (index := is) (a := sa) hown' hstr'.1 hstr'.2
    (g := { method := m, pc := pc + 4, locals := ls, stack := .ref T.heap.size :: .ref T.heap.size :: rest, locked := none }) rfl d4' _ hsteps
end Ends
section Bodies
variable {l : Launch}
theorem vx_ofW {y : MethodName} {ws ws' : List Cond} {rm : Room} {Pc : Array Value → State → Prop} {Qc : Array Value → State → Outcome → State → Prop} {XC : String → State → State → Prop} {mc ms : Nat} {free : Addr → Prop} {cc : ByteArray} {maxL : Nat} {ret : Option FieldType}
    (hy : plainName y.cls = true) (hw : ws = Cond.code y cc maxL ret :: ws')
    (body : ∀ p e s m args below meth c s₁, BodyLoose p l y (headSpec ws rm) cc maxL ret e s m args below meth c s₁ → c.maxLocals = maxL → (∀ x ∈ c.exceptionTable.toList, False) → Pc args s →
      W p l e (headSpec ws rm).room s m args below meth c s.heap [] 0 0 (vx_MQ below Qc XC args s mc ms free) (entryFrame m args maxL)) : vx_Met l y ws rm Pc Qc XC mc ms free := by
  refine MetFree.of_bodyS (code := cc) (maxLocals := maxL) (ret := ret) hy ?_ ?_
  · intro args s m h hn
    obtain ⟨meth, c, h1, h2, h3, h4, h5, h6, -, -⟩ := Cond.code_spec hn (atoms_spec (ws := ws) h _ (by rw [hw]; exact List.mem_cons_self))
    exact ⟨meth, c, h1, h2, h3, h4, h5, h6⟩
  · intro p e s m args below meth c s₁ B hml hP _
    have hh0 : s₁.heap = s.heap := by rw [B.state]; rfl
    have ht : ∀ x ∈ c.exceptionTable.toList, False := by
      obtain ⟨meth9, c9, h1, h2, -, -, -, -, h7, -⟩ := Cond.code_spec B.named (atoms_spec (ws := ws) B.pre _ (by rw [hw]; exact List.mem_cons_self))
      cases Option.some.inj (h1.symm.trans B.method)
      cases Option.some.inj (h2.symm.trans (Stand.of_body B).code)
      intro x hx
      rw [Array.isEmpty_iff.mp h7] at hx
      cases hx
    obtain ⟨t, a1, o, b1, b2, b3⟩ := body p e s m args below meth c s₁ B hml ht hP s₁ hh0 (Stand.of_body B)
    exact ⟨t, o, a1, b1, b2, b3⟩
/-- the table of a body with handlers -/
theorem vx_table {p : Program} {x y : MethodName} {S : Spec} {cc bytes : ByteArray} {maxL maxL' : Nat} {ret ret' : Option FieldType} {e : Env} {s s₁ : State} {m : MethodId} {args : Array Value} {below : List Frame} {meth : Method} {c : Code} {hh : List (Nat × Nat × Nat × Nat)}
    (B : BodyLoose p l y S cc maxL ret e s m args below meth c s₁) (h : (Cond.codeWith y bytes maxL' ret' hh).before args s = true) : c.exceptionTable.toList = tableOf hh := by
  obtain ⟨m9, meth9, c9, hn9, h1, h2, -, -, h6, -⟩ := Cond.codeWith_spec h
  cases Option.some.inj (hn9.symm.trans B.named)
  cases Option.some.inj (h1.symm.trans B.method)
  cases Option.some.inj (h2.symm.trans (Stand.of_body B).code)
  rw [← h6, table_eq]
end Bodies
end VXA
/-! ===== END ===== -/
/-! ===== BEGIN a static call of a method with an exception table ===== -/
section VXS
variable {p : Program} {l : Launch} {e : Env} {R : Room} {s : State} {m : MethodId} {args : Array Value} {below : List Frame} {meth : Method} {c : Code} {T : State} {H : Heap} {locs : List Loc} {cells slots : Nat}
abbrev vx_CSW (R : Room) (s : State) (args : Array Value) (own : String) (index : Nat) (y : MethodName) (bytes : ByteArray) (maxL : Nat) (ret : Option FieldType) (hh : List (Nat × Nat × Nat × Nat)) (ws : List Cond) (rm : Room) (mc ms n : Nat) : Prop :=
  (rm.cells = mc ∧ rm.slots = ms ∧ rm.frames + 1 ≤ R.frames ∧ 8 + (maxL + 11) + rm.locals ≤ R.locals ∧ (∀ w ∈ ws, ∀ (a' : Array Value) (U : State), s.WarmedH U.vm → w.before a' U = true) ∧ Cond.codeWith y bytes maxL ret hh ∈ ws) ∧
  (Cond.codeWith y bytes maxL ret hh).before args s = true ∧ (Cond.initialized y.cls).before args s = true ∧ (y.cls ≠ "java/lang/invoke/MethodHandle" ∧ y.cls ≠ "java/lang/invoke/VarHandle") ∧
  (∀ sig, parseMethodDescriptor y.desc = some sig → n = sig.parameters.length) ∧ (Cond.methodLink own index y).before args s = true ∧ (Cond.static y).before args s = true
theorem vx_cwSW {own : String} {index maxL mc ms : Nat} {y : MethodName} {bytes : ByteArray} {ret : Option FieldType} {hh : List (Nat × Nat × Nat × Nat)} {Ts ws ws' : List Cond} {rm : Room} (n : Nat) (ht : ∀ w ∈ Ts, w.before args s = true) (hT : GoodIn Ts (va_wsS own index y ws)) (hw : ws = Cond.codeWith y bytes maxL ret hh :: ws') (hrc : rm.cells = mc) (hrs : rm.slots = ms)
    (hd : y.cls ≠ "java/lang/invoke/MethodHandle" ∧ y.cls ≠ "java/lang/invoke/VarHandle" ∧ (parseMethodDescriptor y.desc).map (fun d => d.parameters.length) = some n) (hR : rm.frames + 1 ≤ R.frames ∧ 8 + (maxL + 11) + rm.locals ≤ R.locals) :
    vx_CSW R s args own index y bytes maxL ret hh ws rm mc ms n := by
  have ok : ∀ w ∈ va_wsS own index y ws, w.before args s = true := fun w h => ht w (hT w h).1
  have hG : GoodIn Ts ws := fun w h => hT w (by unfold va_wsS; exact List.mem_append_right _ h)
  have hc : Cond.codeWith y bytes maxL ret hh ∈ ws := by rw [hw]; exact List.mem_cons_self
  refine ⟨⟨hrc, hrs, hR.1, hR.2, pay_in ht hG, hc⟩, ht _ (hG _ hc).1, ok _ (by simp [va_wsS]), ⟨hd.1, hd.2.1⟩, fun sig h => ?_, ok _ (by simp [va_wsS]), ok _ (by simp [va_wsS])⟩
  have h2 := hd.2.2
  rw [h] at h2
  exact (Option.some.inj h2).symm
theorem vx_callSW (X : Stand p l e R s m args below meth c T locs cells slots) (hexec : p.tables.exec = Jvm.exec) {own : String} {index : Nat} {y : MethodName} {bytes : ByteArray} {maxL : Nat} {ret : Option FieldType} {hh : List (Nat × Nat × Nat × Nat)}
    (hown : s.vm.findClass own = some m.cls) (hlink : (Cond.methodLink own index y).before args s = true) (hstat : (Cond.static y).before args s = true) (hinit : (Cond.initialized y.cls).before args s = true)
    (hcode : (Cond.codeWith y bytes maxL ret hh).before args s = true) (hy : y.cls ≠ "java/lang/invoke/MethodHandle" ∧ y.cls ≠ "java/lang/invoke/VarHandle")
    {W9 : Nat} {Pre : Pt → Array Value → Prop} {Post : Pt → Array Value → Option Value → Pt → Prop} (hK : Back l R p e below s args y 3 W9 Pre Post)
    {g : JFrame} (hg : g.method = m) (hsize : g.locals.size = c.maxLocals) {argsL rest : List Value} (hlen : ∀ sig, parseMethodDescriptor y.desc = some sig → argsL.length = sig.parameters.length)
    (hstack : g.stack = argsL.reverse ++ rest) (hW : 2 * g.monitorRoom + (rest.map fun v => v.category).sum ≤ W9) (hdg : decode c.code g.pc = .ok (.invokestatic index, 3))
    (hpre : ∀ vm₁, s.WarmedH vm₁ → Pre ⟨T.setVm vm₁, locs, cells, slots⟩ argsL.toArray) :
    ∃ (v : Option Value) (vm₁ : Vm) (B : Pt), s.WarmedH vm₁ ∧ Stand p l e R s m args below meth c B.U B.locs B.cells B.slots ∧ Post ⟨T.setVm vm₁, locs, cells, slots⟩ argsL.toArray v B ∧
      ∀ target, Steps p.tables e below (B.U.setTop { g with pc := g.pc + 3, stack := v.toList ++ rest }) target → Steps p.tables e below (T.setTop g) target := by
  obtain ⟨mk, methM, cM, hnamed, hmethM, -, -, -, -, -, -, hsigM⟩ := Cond.codeWith_spec hcode
  have hstatic : methM.isStatic = true := Cond.static_spec hnamed hmethM hstat
  obtain ⟨kP, hkP, -⟩ := className_of_methodNamed hnamed
  have hinitP : kP.init = .initialized := Cond.initialized_spec (findClass_of_methodNamed hnamed) hkP hinit
  obtain ⟨vm₁, X₁, hstep₁⟩ := X.invokestatic hexec hown hlink hnamed hmethM hstatic hkP hinitP hy (g := g) hg (argsL := argsL) (rest := rest) (hlen _ hsigM) hstack hdg
  obtain ⟨v, B, X', hpost, hsteps⟩ := hK m meth c ⟨T.setVm vm₁, locs, cells, slots⟩ { g with stack := rest } (.invokestatic index) mk argsL.toArray X₁ hg hsize hdg hW (X₁.named hnamed) (hpre vm₁ X₁.warmed)
  exact ⟨v, vm₁, B, X₁.warmed, X', hpost, fun target h => hstep₁ _ fun acts => by rw [doInvoke_state]; exact hsteps.trans h⟩
theorem vx_runSW {y : MethodName} {bytes cc : ByteArray} {maxL nL mc ms n index : Nat} {ret : Option FieldType} {hh : List (Nat × Nat × Nat × Nat)} {ws : List Cond} {rm : Room} {Pc : Array Value → State → Prop} {Qc : Array Value → State → Outcome → State → Prop} {free : Addr → Prop} {Ts : List Cond} {own : String} {As rest : List Value} {g : JFrame}
    (S : CallFix p m c cc nL s args Ts own) (hM : Met l y ws rm Pc Qc mc ms free) (cw : vx_CSW R s args own index y bytes maxL ret hh ws rm mc ms n) (hp : PreS s H Pc As)
    (hg : g.method = m) (hn : As.length = n) (hsize : g.locals.size = nL) (hstack : g.stack = As.reverse ++ rest) (hW : 2 * g.monitorRoom + (rest.map fun v => v.category).sum ≤ 8) (hdg : decode cc g.pc = .ok (.invokestatic index, 3)) (hf : cells + mc ≤ R.cells ∧ slots + ms ≤ R.slots) :
    va_Run p l e R s m args below meth c H locs cells slots mc ms g rest (Qc As.toArray) (free) := by
  obtain ⟨⟨hrc, hrs, hfr, hlo, hws, hcw⟩, hcode, hini, hy, hlen, hl, hstt⟩ := cw
  have hK : Back l R p e below s args y 3 8 (PreOf R mc ms Pc) (PostOf Qc mc ms free) := va_backW (hh := hh) (bytes := bytes) (maxL := maxL) (ret := ret) hM hp.1 hrc hrs hfr hlo hws hcw (fun a' U hW => word_at hW (Or.inl (by first | rfl | simp [Cond.onTables, Cond.keeps, Cond.steady])) hini)
  obtain ⟨hx, hb, hml, ho, -⟩ := S
  intro T hT X
  obtain ⟨v, vm₁, ⟨U', l2, c2, s2⟩, hW₁, X', ⟨g', mk, t, L, e1, e2, hq, h1, hL, h2, h3⟩, st⟩ := vx_callSW X hx (hh := hh) (bytes := bytes) (maxL := maxL) (ret := ret) ho hl hstt hini hcode hy hK hg (hsize.trans hml.symm) (argsL := As) (rest := rest) (fun sig h => hn.trans (hlen sig h)) hstack hW (by rw [hb]; exact hdg)
    (fun vm₁ hW₁ => ⟨hf.1, hf.2, hp.2 (T.setVm vm₁) hT hW₁⟩)
  dsimp only [Pt.U, Pt.locs, Pt.cells, Pt.slots] at X' e1 e2 h1 h2 h3 st
  subst h1; subst h2; subst h3
  exact ⟨v, (T.setVm vm₁).calling g' mk As.toArray, t, U', L, hT, X', hL, e1, e2, hq, st⟩
/-- not caught here, past rows that name other classes: it goes on to the caller -/
theorem vx_outP {p : Program} {l : Launch} {e : Env} {R : Room} {s : State} {m : MethodId} {args : Array Value} {below : List Frame} {meth : Method} {c : Code} {H : Heap} {locs : List Loc} {cells slots : Nat} {free : Addr → Prop} {ls : Array Slot} {rest : List Value} {Qc : Array Value → State → Outcome → State → Prop} {XC : String → State → State → Prop}
    {pc : Nat} {own E : String} {ce : Cell} {q : Addr} {mc ms : Nat} (hown : s.vm.findClass own = some m.cls) (hlocks : meth.locks = false)
    (hpass : ∀ z ∈ c.exceptionTable.toList, covers z pc = false ∨ (z.catchType ≠ 0 ∧ ∃ nm : String, (Cond.classLink own z.catchType nm).before args s = true ∧ va_Nc E nm s)) (hcell : H[q]? = some ce) (hv : ce.vm = .none) (hcl : s.vm.findClass E = some ce.cls)
    (hx : ∀ t : State, t.heap = H → s.vm.Alike t.vm → XC E s t) (hf : ∀ z ∈ locs, free z.base) (hc : cells ≤ mc) (hs : slots ≤ ms) :
    vx_W p l e R s m args below meth c H locs cells slots (vx_MQ below Qc XC args s mc ms free) (F0 m pc ls rest) q := by
  intro T hT X
  have hpl : e.platform.magicAccessors = ({} : Platform).magicAccessors := by rw [X.admits.platform]
  obtain ⟨vm', hW', X', st⟩ := X.outThrough hlocks q (g := F0 m pc ls rest) rfl rfl rfl (cell := ce) (by rw [hT]; exact hcell) (by rw [hv]; rfl)
    (by obtain ⟨k9, h9, -⟩ := Vm.findClass_spec hcl; exact ⟨k9, h9⟩) (fun z hz => by
      rcases hpass z hz with h | ⟨hz0, nm, hl1, hn1⟩
      · exact Or.inl h
      · obtain ⟨c6, hc6, hcl6⟩ := Cond.classLink_spec hown hl1 e.platform hpl
        obtain ⟨a8, b8, h1, h2, h3⟩ := hn1
        cases Option.some.inj (h1.symm.trans hcl)
        cases Option.some.inj (h2.symm.trans hc6)
        exact Or.inr ⟨hz0, _, hcl6, h3⟩)
  obtain ⟨g₀, hfr⟩ := X'.frames_eq
  have hcell9 : ((T.setVm vm').setFrames (.throwing q :: below)).heap[q]? = some ce := by
    show T.heap[q]? = some ce
    rw [hT]; exact hcell
  have hend : Ended ((T.setVm vm').setFrames (.throwing q :: below)) below (.threw q) := State.frames_setFrames _ (State.cur_lt_of_frames hfr)
  refine ⟨(T.setVm vm').setFrames (.throwing q :: below), ?_, .threw q, X'.here.running, hend, Or.inr ⟨q, rfl, E, ce, locs, hx _ hT (X'.ends _).1.alike, hcell9, hv, hcl, (X'.ends _).1, (X'.ends _).2.mono hc hs, hf⟩⟩
  rw [X.pushThrowing_eq]
  exact st
/-- a thing of a world lies in the heap -/
theorem vx_lt {D : va_G} {cl : List vw_C} {ws : va_W} {H1 : Heap} (h : va_P D cl ws H1) {k : Nat} {q : Nat × va_E} (hk : ws[k]? = some q) : q.1 < H1.size := (h k q hk).lt
end VXS
/-! ===== END ===== -/
/-! ===== BEGIN methods with a table of their own: called by a name, returning or throwing ===== -/
section VXH
/-! vx_backW, vx_callVX, vx_callSX, vx_callVW, vx_runVW, vx_runVX, vx_runSX, vx_ofWH follow the same proofs as their sisters above (Free/Laws.lean, Shelf42/LK1.lean); vx_outP calls Shelf42/NT130.lean (outThrough). -/
section
variable {l : Launch} {R : Room} {p : Program} {e : Env} {below : List Frame} {s : State} {sargs : Array Value} {y : MethodName} {len W9 : Nat}
theorem vx_backW {ws : List Cond} {rm : Room} {Pc : Array Value → State → Prop} {Qc : Array Value → State → Outcome → State → Prop} {XC : String → State → State → Prop} {mc ms : Nat} {free : Addr → Prop} {bytes : ByteArray} {maxL : Nat} {ret : Option FieldType} {hh : List (Nat × Nat × Nat × Nat)}
    (hM : vx_Met l y ws rm Pc Qc XC mc ms free) (hblind : FrameBlind Pc) (hrc : rm.cells = mc) (hrs : rm.slots = ms)
    (hframes : rm.frames + 1 ≤ R.frames) (hlocals : W9 + (maxL + 11) + rm.locals ≤ R.locals)
    (hws : ∀ w ∈ ws, ∀ a' U, s.WarmedH U.vm → w.before a' U = true) (hcode : Cond.codeWith y bytes maxL ret hh ∈ ws) (hinit : ∀ a' U, s.WarmedH U.vm → (Cond.initialized y.cls).before a' U = true) :
    vx_Back l R p e below s sargs y len W9 (PreOf R mc ms Pc) (PostOf Qc mc ms free) (vx_Post XC mc ms free) := by
  intro m meth c A g ig mk a X hg hsize hdg hW hn hp
  have h1 : (headSpec ws rm).pre.before a A.U = true := atoms_intro fun w hw => hws w hw _ _ X.warmed
  have h2 : (Cond.codeWith y bytes maxL ret hh).before a A.U = true := hws _ hcode _ _ X.warmed
  have h3 : (Cond.initialized y.cls).before a A.U = true := hinit _ _ X.warmed
  have h4 : A.cells + (headSpec ws rm).room.cells ≤ R.cells := by rw [show (headSpec ws rm).room.cells = mc from hrc]; exact hp.1
  have h5 : A.slots + (headSpec ws rm).room.slots ≤ R.slots := by rw [show (headSpec ws rm).room.slots = ms from hrs]; exact hp.2.1
  have hPc : Pc a (A.U.calling g mk a) := hblind _ _ _ _ hp.2.2
  obtain ⟨U, Ls, c0, s0⟩ := A
  dsimp only [Pt.U, Pt.locs, Pt.cells, Pt.slots] at h1 h2 h3 h4 h5 X hn hPc ⊢
  obtain ⟨m9, methY, cY, hn9, hmY, hcY, -, hlY, -⟩ := Cond.codeWith_spec h2
  cases Option.some.inj (hn9.symm.trans hn)
  obtain ⟨kY, hkY, -⟩ := className_of_methodNamed hn
  have hinitY : kY.init = .initialized := Cond.initialized_spec (findClass_of_methodNamed hn) hkY h3
  have h : At U g.method c below := by rw [hg]; exact X.here
  have hlocals9 : W9 + (maxL + 11) + (headSpec ws rm).room.locals ≤ R.locals := hlocals
  have happ : (headSpec ws rm).appliesLoose y e.platform (U.calling g mk a) = true :=
    Spec.appliesLoose_calling (g := g) h hdg hn hkY hinitY
      (X.room_calling (g := g) (R' := (headSpec ws rm).room) hsize hmY hcY hframes (by rw [hlY]; omega) h4 h5) h1
  obtain ⟨mid, hmid⟩ := h.above
  have hfr : (U.setTop g).frames = (.java g :: mid) ++ below := by rw [State.frames_setTop' g h.top, hmid]; rfl
  obtain ⟨o, s₂, hsteps, -, hend, hq⟩ := Steps.callFree hM p X.admits X.cas X.clock (acts := []) hfr happ hPc trivial
  have hq' : vx_Q Qc XC mc ms free a (U.calling g mk a) o s₂ := hq
  rw [State.frames_setTop' g h.top] at hend
  obtain ⟨g₀, hg0⟩ := Option.isSome_iff_exists.mp h.top
  obtain ⟨r, hr⟩ := State.topJava?_eq_some.mp hg0
  have hr' : (({ U with heap := s₂.heap, slotsUsed := s₂.slotsUsed } : State).setVm s₂.vm).frames = .java g₀ :: r := hr
  rcases hq' with ⟨hqc, L, hfe, hL⟩ | ⟨q, rfl, E, ce, L, hx, hce, hcv, hcl, hW₂, hsm, hL⟩
  · obtain ⟨⟨v, rfl⟩, hW₂, e2, q2, q3, q4, q5, q6⟩ := id hfe
    have e3 : s₂ = ({ (U.calling g mk a).setFrames s₂.frames with heap := s₂.heap, slotsUsed := s₂.slotsUsed } : State).setVm s₂.vm := by
      have : s₂ = ({ s₂ with vm := (U.calling g mk a).vm } : State).setVm s₂.vm := rfl
      rw [e2] at this
      exact this
    obtain ⟨c₂, i₂, len₂, hc₂, hd₂, hf₂⟩ := hend
    have hW' : U.WarmedH s₂.vm := hW₂
    have hcc : c₂ = c := by
      have h1 : s₂.code? g.method = U.code? g.method := by
        rw [State.code?_eq, State.code?_eq, hW'.alike.method?]
      exact Option.some.inj (hc₂.symm.trans (h1.trans h.code))
    subst hcc
    have hlen : len₂ = len := by rw [hdg] at hd₂; cases hd₂; rfl
    subst hlen
    have hs₂ : s₂ = (({ U with heap := s₂.heap, slotsUsed := s₂.slotsUsed } : State).setVm s₂.vm).setTop { g with pc := g.pc + len₂, stack := v.toList ++ g.stack } := by
      refine e3.trans ?_
      rw [hf₂, State.calling_eq h.top, State.setFrames_setFrames, State.setTop_of_frames _ hr', hr]
      rfl
    have hsame : U.sameButNew ({ U with heap := s₂.heap, slotsUsed := s₂.slotsUsed } : State) L mc ms := by
      refine ⟨?_, q2, q3, q4, q5, q6⟩
      obtain ⟨t, ht, -⟩ := State.frames_cons hr
      show ({ U with heap := s₂.heap, slotsUsed := s₂.slotsUsed } : State) = { U.setFrames U.frames with heap := s₂.heap, slotsUsed := s₂.slotsUsed }
      rw [State.setFrames_self ht]
    subst hg
    refine Or.inl ⟨v, ⟨(({ U with heap := s₂.heap, slotsUsed := s₂.slotsUsed } : State).setVm s₂.vm), Ls ++ L, c0 + mc, s0 + ms⟩,
      ⟨X.admits, X.cas, X.clock, X.frames, X.room, X.hears, X.method, X.code, (X.here.setHeapUsed s₂.heap s₂.slotsUsed).setVm hW'.alike, X.tail, State.WarmedH.trans X.warmed hW', X.limits, X.bytes, X.same.trans (hsame.setVm s.vm)⟩,
      ⟨g, mk, s₂, L, rfl, rfl, hqc, rfl, hL, rfl, rfl⟩, ?_⟩
    show Steps p.tables e below _ ((({ U with heap := s₂.heap, slotsUsed := s₂.slotsUsed } : State).setVm s₂.vm).setTop { g with pc := g.pc + len₂, stack := v.toList ++ g.stack })
    rw [← hs₂]
    exact hsteps
  · obtain ⟨e2, q2, q3, q4, q5, q6⟩ := id hsm
    have e3 : s₂ = ({ (U.calling g mk a).setFrames s₂.frames with heap := s₂.heap, slotsUsed := s₂.slotsUsed } : State).setVm s₂.vm := by
      have : s₂ = ({ s₂ with vm := (U.calling g mk a).vm } : State).setVm s₂.vm := rfl
      rw [e2] at this
      exact this
    have hf₂ : s₂.frames = .throwing q :: .java g :: U.frames.tail := hend
    have hW' : U.WarmedH s₂.vm := hW₂
    have hs₂ : s₂ = ((({ U with heap := s₂.heap, slotsUsed := s₂.slotsUsed } : State).setVm s₂.vm).setTop g).pushFrame (.throwing q) := by
      refine e3.trans ?_
      rw [hf₂, State.calling_eq h.top, State.setFrames_setFrames, State.pushFrame, State.frames_setTop _ hr', State.setTop_of_frames _ hr', State.setFrames_setFrames, hr]
      rfl
    have hsame : U.sameButNew ({ U with heap := s₂.heap, slotsUsed := s₂.slotsUsed } : State) L mc ms := by
      refine ⟨?_, q2, q3, q4, q5, q6⟩
      obtain ⟨t, ht, -⟩ := State.frames_cons hr
      show ({ U with heap := s₂.heap, slotsUsed := s₂.slotsUsed } : State) = { U.setFrames U.frames with heap := s₂.heap, slotsUsed := s₂.slotsUsed }
      rw [State.setFrames_self ht]
    subst hg
    refine Or.inr ⟨q, ⟨(({ U with heap := s₂.heap, slotsUsed := s₂.slotsUsed } : State).setVm s₂.vm), Ls ++ L, c0 + mc, s0 + ms⟩,
      ⟨X.admits, X.cas, X.clock, X.frames, X.room, X.hears, X.method, X.code, (X.here.setHeapUsed s₂.heap s₂.slotsUsed).setVm hW'.alike, X.tail, State.WarmedH.trans X.warmed hW', X.limits, X.bytes, X.same.trans (hsame.setVm s.vm)⟩,
      ⟨g, mk, s₂, L, E, ce, rfl, rfl, hx, hce, hcv, hcl, rfl, hL, rfl, rfl⟩, ?_⟩
    show Steps p.tables e below _ (((({ U with heap := s₂.heap, slotsUsed := s₂.slotsUsed } : State).setVm s₂.vm).setTop g).pushFrame (.throwing q))
    rw [← hs₂]
    exact hsteps
end
variable {p : Program} {l : Launch} {e : Env} {R : Room} {s : State} {m : MethodId} {args : Array Value} {below : List Frame} {meth : Method} {c : Code} {T : State} {H : Heap} {locs : List Loc} {cells slots : Nat}
theorem vx_callVX (X : Stand p l e R s m args below meth c T locs cells slots) (hexec : p.tables.exec = Jvm.exec) {own C : String} {index : Nat} {y : MethodName} {bytes : ByteArray} {maxL : Nat} {ret : Option FieldType} {hh : List (Nat × Nat × Nat × Nat)}
    (hown : s.vm.findClass own = some m.cls) (hlink : (Cond.methodLink own index y).before args s = true) (hinst : (Cond.instanceMethod y).before args s = true) (hsel : (Cond.selects C y y).before args s = true)
    (hcode : (Cond.codeWith y bytes maxL ret hh).before args s = true) (hy : y.cls ≠ "java/lang/invoke/MethodHandle" ∧ y.cls ≠ "java/lang/invoke/VarHandle")
    {W9 : Nat} {Pre : Pt → Array Value → Prop} {Post : Pt → Array Value → Option Value → Pt → Prop} {PostX : Pt → Array Value → Addr → Pt → Prop} (hK : vx_Back l R p e below s args y 3 W9 Pre Post PostX)
    {b : Addr} {cellB : Cell} (hcell : T.heap[b]? = some cellB) (hobj : cellB.vm.isStatics = false) (hcls : s.vm.findClass C = some cellB.cls)
    {g : JFrame} (hg : g.method = m) (hsize : g.locals.size = c.maxLocals) {argsL rest : List Value} (hlen : ∀ sig, parseMethodDescriptor y.desc = some sig → argsL.length = sig.parameters.length)
    (hstack : g.stack = argsL.reverse ++ .ref b :: rest) (hW : 2 * g.monitorRoom + (rest.map fun v => v.category).sum ≤ W9) (hdg : decode c.code g.pc = .ok (.invokevirtual index, 3))
    (hpre : ∀ vm₁, s.WarmedH vm₁ → Pre ⟨T.setVm vm₁, locs, cells, slots⟩ (Value.ref b :: argsL).toArray) :
    (∃ (v : Option Value) (vm₁ : Vm) (B : Pt), s.WarmedH vm₁ ∧ Stand p l e R s m args below meth c B.U B.locs B.cells B.slots ∧ Post ⟨T.setVm vm₁, locs, cells, slots⟩ (Value.ref b :: argsL).toArray v B ∧
      ∀ target, Steps p.tables e below (B.U.setTop { g with pc := g.pc + 3, stack := v.toList ++ rest }) target → Steps p.tables e below (T.setTop g) target) ∨
    (∃ (q : Addr) (vm₁ : Vm) (B : Pt), s.WarmedH vm₁ ∧ Stand p l e R s m args below meth c B.U B.locs B.cells B.slots ∧ PostX ⟨T.setVm vm₁, locs, cells, slots⟩ (Value.ref b :: argsL).toArray q B ∧
      Steps p.tables e below (T.setTop g) ((B.U.setTop { g with stack := rest }).pushFrame (.throwing q))) := by
  obtain ⟨mk, methM, hnamed, hmethM, hstM, habM⟩ := Cond.instanceMethod_spec hinst
  obtain ⟨m8, methM', cM, hn8, hmethM', -, -, -, -, -, -, hsigM⟩ := Cond.codeWith_spec hcode
  cases Option.some.inj (hn8.symm.trans hnamed)
  cases hmethM.symm.trans hmethM'
  obtain ⟨c2, r2, m2, q1, q2, q3, q4, kP, hkP, hkPi⟩ := Cond.selects_spec hsel
  cases hcls.symm.trans q1
  cases (State.methodFound?_of_named hnamed hy).symm.trans q2
  cases hnamed.symm.trans q3
  have hselP : selectMethod e.platform s.vm cellB.cls mk = .method mk := by rw [Launch.admits_selectMethod X.admits]; exact q4
  obtain ⟨vm₁, X₁, hstep₁⟩ := X.invokevirtual hexec hown hlink hnamed hmethM hstM hkP hkPi hy (a := b) (cell := cellB) hcell
    (fun z h => by rw [h] at hobj; cases hobj) hselP hmethM habM hkP hkPi (g := g) hg (argsL := argsL) (rest := rest) (hlen _ hsigM) hstack hdg
  rcases hK m meth c ⟨T.setVm vm₁, locs, cells, slots⟩ { g with stack := rest } (.invokevirtual index) mk (Value.ref b :: argsL).toArray X₁ hg hsize hdg hW (X₁.named hnamed) (hpre vm₁ X₁.warmed) with ⟨v, B, X', hpost, hsteps⟩ | ⟨q, B, X', hpost, hsteps⟩
  · exact Or.inl ⟨v, vm₁, B, X₁.warmed, X', hpost, fun target h => hstep₁ _ fun acts => by rw [doInvoke_state]; exact hsteps.trans h⟩
  · exact Or.inr ⟨q, vm₁, B, X₁.warmed, X', hpost, hstep₁ _ fun acts => by rw [doInvoke_state]; exact hsteps⟩
theorem vx_callSX (X : Stand p l e R s m args below meth c T locs cells slots) (hexec : p.tables.exec = Jvm.exec) {own : String} {index : Nat} {y : MethodName} {bytes : ByteArray} {maxL : Nat} {ret : Option FieldType} {hh : List (Nat × Nat × Nat × Nat)}
    (hown : s.vm.findClass own = some m.cls) (hlink : (Cond.methodLink own index y).before args s = true) (hstat : (Cond.static y).before args s = true) (hinit : (Cond.initialized y.cls).before args s = true)
    (hcode : (Cond.codeWith y bytes maxL ret hh).before args s = true) (hy : y.cls ≠ "java/lang/invoke/MethodHandle" ∧ y.cls ≠ "java/lang/invoke/VarHandle")
    {W9 : Nat} {Pre : Pt → Array Value → Prop} {Post : Pt → Array Value → Option Value → Pt → Prop} {PostX : Pt → Array Value → Addr → Pt → Prop} (hK : vx_Back l R p e below s args y 3 W9 Pre Post PostX)
    {g : JFrame} (hg : g.method = m) (hsize : g.locals.size = c.maxLocals) {argsL rest : List Value} (hlen : ∀ sig, parseMethodDescriptor y.desc = some sig → argsL.length = sig.parameters.length)
    (hstack : g.stack = argsL.reverse ++ rest) (hW : 2 * g.monitorRoom + (rest.map fun v => v.category).sum ≤ W9) (hdg : decode c.code g.pc = .ok (.invokestatic index, 3))
    (hpre : ∀ vm₁, s.WarmedH vm₁ → Pre ⟨T.setVm vm₁, locs, cells, slots⟩ argsL.toArray) :
    (∃ (v : Option Value) (vm₁ : Vm) (B : Pt), s.WarmedH vm₁ ∧ Stand p l e R s m args below meth c B.U B.locs B.cells B.slots ∧ Post ⟨T.setVm vm₁, locs, cells, slots⟩ argsL.toArray v B ∧
      ∀ target, Steps p.tables e below (B.U.setTop { g with pc := g.pc + 3, stack := v.toList ++ rest }) target → Steps p.tables e below (T.setTop g) target) ∨
    (∃ (q : Addr) (vm₁ : Vm) (B : Pt), s.WarmedH vm₁ ∧ Stand p l e R s m args below meth c B.U B.locs B.cells B.slots ∧ PostX ⟨T.setVm vm₁, locs, cells, slots⟩ argsL.toArray q B ∧
      Steps p.tables e below (T.setTop g) ((B.U.setTop { g with stack := rest }).pushFrame (.throwing q))) := by
  obtain ⟨mk, methM, cM, hnamed, hmethM, -, -, -, -, -, -, hsigM⟩ := Cond.codeWith_spec hcode
  have hstatic : methM.isStatic = true := Cond.static_spec hnamed hmethM hstat
  obtain ⟨kP, hkP, -⟩ := className_of_methodNamed hnamed
  have hinitP : kP.init = .initialized := Cond.initialized_spec (findClass_of_methodNamed hnamed) hkP hinit
  obtain ⟨vm₁, X₁, hstep₁⟩ := X.invokestatic hexec hown hlink hnamed hmethM hstatic hkP hinitP hy (g := g) hg (argsL := argsL) (rest := rest) (hlen _ hsigM) hstack hdg
  rcases hK m meth c ⟨T.setVm vm₁, locs, cells, slots⟩ { g with stack := rest } (.invokestatic index) mk argsL.toArray X₁ hg hsize hdg hW (X₁.named hnamed) (hpre vm₁ X₁.warmed) with ⟨v, B, X', hpost, hsteps⟩ | ⟨q, B, X', hpost, hsteps⟩
  · exact Or.inl ⟨v, vm₁, B, X₁.warmed, X', hpost, fun target h => hstep₁ _ fun acts => by rw [doInvoke_state]; exact hsteps.trans h⟩
  · exact Or.inr ⟨q, vm₁, B, X₁.warmed, X', hpost, hstep₁ _ fun acts => by rw [doInvoke_state]; exact hsteps⟩
theorem vx_callVW (X : Stand p l e R s m args below meth c T locs cells slots) (hexec : p.tables.exec = Jvm.exec) {own C : String} {index : Nat} {y : MethodName} {bytes : ByteArray} {maxL : Nat} {ret : Option FieldType} {hh : List (Nat × Nat × Nat × Nat)}
    (hown : s.vm.findClass own = some m.cls) (hlink : (Cond.methodLink own index y).before args s = true) (hinst : (Cond.instanceMethod y).before args s = true) (hsel : (Cond.selects C y y).before args s = true)
    (hcode : (Cond.codeWith y bytes maxL ret hh).before args s = true) (hy : y.cls ≠ "java/lang/invoke/MethodHandle" ∧ y.cls ≠ "java/lang/invoke/VarHandle")
    {W9 : Nat} {Pre : Pt → Array Value → Prop} {Post : Pt → Array Value → Option Value → Pt → Prop} (hK : Back l R p e below s args y 3 W9 Pre Post)
    {b : Addr} {cellB : Cell} (hcell : T.heap[b]? = some cellB) (hobj : cellB.vm.isStatics = false) (hcls : s.vm.findClass C = some cellB.cls)
    {g : JFrame} (hg : g.method = m) (hsize : g.locals.size = c.maxLocals) {argsL rest : List Value} (hlen : ∀ sig, parseMethodDescriptor y.desc = some sig → argsL.length = sig.parameters.length)
    (hstack : g.stack = argsL.reverse ++ .ref b :: rest) (hW : 2 * g.monitorRoom + (rest.map fun v => v.category).sum ≤ W9) (hdg : decode c.code g.pc = .ok (.invokevirtual index, 3))
    (hpre : ∀ vm₁, s.WarmedH vm₁ → Pre ⟨T.setVm vm₁, locs, cells, slots⟩ (Value.ref b :: argsL).toArray) :
    ∃ (v : Option Value) (vm₁ : Vm) (B : Pt), s.WarmedH vm₁ ∧ Stand p l e R s m args below meth c B.U B.locs B.cells B.slots ∧ Post ⟨T.setVm vm₁, locs, cells, slots⟩ (Value.ref b :: argsL).toArray v B ∧
      ∀ target, Steps p.tables e below (B.U.setTop { g with pc := g.pc + 3, stack := v.toList ++ rest }) target → Steps p.tables e below (T.setTop g) target := by
  obtain ⟨mk, methM, hnamed, hmethM, hstM, habM⟩ := Cond.instanceMethod_spec hinst
  obtain ⟨m8, methM', cM, hn8, hmethM', -, -, -, -, -, -, hsigM⟩ := Cond.codeWith_spec hcode
  cases Option.some.inj (hn8.symm.trans hnamed)
  cases hmethM.symm.trans hmethM'
  obtain ⟨c2, r2, m2, q1, q2, q3, q4, kP, hkP, hkPi⟩ := Cond.selects_spec hsel
  cases hcls.symm.trans q1
  cases (State.methodFound?_of_named hnamed hy).symm.trans q2
  cases hnamed.symm.trans q3
  have hselP : selectMethod e.platform s.vm cellB.cls mk = .method mk := by rw [Launch.admits_selectMethod X.admits]; exact q4
  obtain ⟨vm₁, X₁, hstep₁⟩ := X.invokevirtual hexec hown hlink hnamed hmethM hstM hkP hkPi hy (a := b) (cell := cellB) hcell
    (fun z h => by rw [h] at hobj; cases hobj) hselP hmethM habM hkP hkPi (g := g) hg (argsL := argsL) (rest := rest) (hlen _ hsigM) hstack hdg
  obtain ⟨v, B, X', hpost, hsteps⟩ := hK m meth c ⟨T.setVm vm₁, locs, cells, slots⟩ { g with stack := rest } (.invokevirtual index) mk (Value.ref b :: argsL).toArray X₁ hg hsize hdg hW (X₁.named hnamed) (hpre vm₁ X₁.warmed)
  exact ⟨v, vm₁, B, X₁.warmed, X', hpost, fun target h => hstep₁ _ fun acts => by rw [doInvoke_state]; exact hsteps.trans h⟩
abbrev vx_CVW (R : Room) (s : State) (args : Array Value) (own C : String) (index : Nat) (y : MethodName) (bytes : ByteArray) (maxL : Nat) (ret : Option FieldType) (hh : List (Nat × Nat × Nat × Nat)) (ws : List Cond) (rm : Room) (mc ms n : Nat) : Prop :=
  (rm.cells = mc ∧ rm.slots = ms ∧ rm.frames + 1 ≤ R.frames ∧ 8 + (maxL + 11) + rm.locals ≤ R.locals ∧ (∀ w ∈ ws, ∀ (a' : Array Value) (U : State), s.WarmedH U.vm → w.before a' U = true) ∧ Cond.codeWith y bytes maxL ret hh ∈ ws) ∧
  (Cond.codeWith y bytes maxL ret hh).before args s = true ∧ (Cond.initialized y.cls).before args s = true ∧ (y.cls ≠ "java/lang/invoke/MethodHandle" ∧ y.cls ≠ "java/lang/invoke/VarHandle") ∧
  (∀ sig, parseMethodDescriptor y.desc = some sig → n = sig.parameters.length) ∧ (Cond.methodLink own index y).before args s = true ∧ (Cond.instanceMethod y).before args s = true ∧ (Cond.selects C y y).before args s = true
theorem vx_cwVW {own C : String} {index maxL mc ms : Nat} {y : MethodName} {bytes : ByteArray} {ret : Option FieldType} {hh : List (Nat × Nat × Nat × Nat)} {Ts ws ws' : List Cond} {rm : Room} (n : Nat) (ht : ∀ w ∈ Ts, w.before args s = true) (hT : GoodIn Ts (wsV own index C y ws)) (hw : ws = Cond.codeWith y bytes maxL ret hh :: ws') (hrc : rm.cells = mc) (hrs : rm.slots = ms)
    (hd : y.cls = C ∧ y.cls ≠ "java/lang/invoke/MethodHandle" ∧ y.cls ≠ "java/lang/invoke/VarHandle" ∧ (parseMethodDescriptor y.desc).map (fun d => d.parameters.length) = some n) (hR : rm.frames + 1 ≤ R.frames ∧ 8 + (maxL + 11) + rm.locals ≤ R.locals) :
    vx_CVW R s args own C index y bytes maxL ret hh ws rm mc ms n := by
  obtain ⟨hC, hd⟩ := hd
  subst hC
  have ok : ∀ w ∈ wsV own index y.cls y ws, w.before args s = true := fun w h => ht w (hT w h).1
  have hG : GoodIn Ts ws := fun w h => hT w (by unfold wsV; exact List.mem_append_right _ h)
  have hc : Cond.codeWith y bytes maxL ret hh ∈ ws := by rw [hw]; exact List.mem_cons_self
  refine ⟨⟨hrc, hrs, hR.1, hR.2, pay_in ht hG, hc⟩, ht _ (hG _ hc).1, ok _ (by simp [wsV]), ⟨hd.1, hd.2.1⟩, fun sig h => ?_, ok _ (by simp [wsV]), ok _ (by simp [wsV]), ok _ (by simp [wsV])⟩
  have h2 := hd.2.2
  rw [h] at h2
  exact (Option.some.inj h2).symm
theorem vx_runVW {y : MethodName} {bytes cc : ByteArray} {maxL nL mc ms n index : Nat} {ret : Option FieldType} {hh : List (Nat × Nat × Nat × Nat)} {ws : List Cond} {rm : Room} {Pc : Array Value → State → Prop} {Qc : Array Value → State → Outcome → State → Prop} {free : Addr → Prop} {Ts : List Cond} {own C : String} {b : Addr} {As rest : List Value} {g : JFrame}
    (S : CallFix p m c cc nL s args Ts own) (hM : Met l y ws rm Pc Qc mc ms free) (cw : vx_CVW R s args own C index y bytes maxL ret hh ws rm mc ms n) (hp : PreV s H C b Pc As)
    (hg : g.method = m) (hn : As.length = n) (hsize : g.locals.size = nL) (hstack : g.stack = As.reverse ++ .ref b :: rest) (hW : 2 * g.monitorRoom + (rest.map fun v => v.category).sum ≤ 8) (hdg : decode cc g.pc = .ok (.invokevirtual index, 3)) (hf : cells + mc ≤ R.cells ∧ slots + ms ≤ R.slots) :
    va_Run p l e R s m args below meth c H locs cells slots mc ms g rest (Qc (Value.ref b :: As).toArray) free := by
  obtain ⟨⟨hrc, hrs, hfr, hlo, hws, hcw⟩, hcode, hini, hy, hlen, hl, hin, hse⟩ := cw
  have hK : Back l R p e below s args y 3 8 (PreOf R mc ms Pc) (PostOf Qc mc ms free) := va_backW (hh := hh) (bytes := bytes) (maxL := maxL) (ret := ret) hM hp.1 hrc hrs hfr hlo hws hcw (fun a' U hW => word_at hW (Or.inl (by first | rfl | simp [Cond.onTables, Cond.keeps, Cond.steady])) hini)
  obtain ⟨hx, hb, hml, ho, -⟩ := S
  obtain ⟨-, ⟨cellB, hcB, hoB, hclB⟩, hPc⟩ := hp
  intro T hT X
  obtain ⟨v, vm₁, ⟨U', l2, c2, s2⟩, hW₁, X', ⟨g', mk, t, L, e1, e2, hq, h1, hL, h2, h3⟩, st⟩ := vx_callVW X hx (C := C) (hh := hh) (bytes := bytes) (maxL := maxL) (ret := ret) ho hl hin hse hcode hy hK (by rw [hT]; exact hcB) hoB hclB hg (hsize.trans hml.symm) (argsL := As) (rest := rest) (fun sig h => hn.trans (hlen sig h)) hstack hW (by rw [hb]; exact hdg)
    (fun vm₁ hW₁ => ⟨hf.1, hf.2, hPc (T.setVm vm₁) hT hW₁⟩)
  dsimp only [Pt.U, Pt.locs, Pt.cells, Pt.slots] at X' e1 e2 h1 h2 h3 st
  subst h1; subst h2; subst h3
  exact ⟨v, (T.setVm vm₁).calling g' mk (Value.ref b :: As).toArray, t, U', L, hT, X', hL, e1, e2, hq, st⟩
section
variable {y : MethodName} {bytes cc : ByteArray} {maxL nL mc ms n index : Nat} {ret : Option FieldType} {ws : List Cond} {rm : Room} {Pc : Array Value → State → Prop} {Qc : Array Value → State → Outcome → State → Prop} {XC : String → State → State → Prop} {free : Addr → Prop} {Ts : List Cond} {own C : String} {b : Addr} {As rest : List Value} {g : JFrame}
theorem vx_runVX {hh : List (Nat × Nat × Nat × Nat)} (S : CallFix p m c cc nL s args Ts own) (hM : vx_Met l y ws rm Pc Qc XC mc ms free) (cw : vx_CVW R s args own C index y bytes maxL ret hh ws rm mc ms n) (hp : PreV s H C b Pc As)
    (hg : g.method = m) (hn : As.length = n) (hsize : g.locals.size = nL) (hstack : g.stack = As.reverse ++ .ref b :: rest) (hW : 2 * g.monitorRoom + (rest.map fun v => v.category).sum ≤ 8) (hdg : decode cc g.pc = .ok (.invokevirtual index, 3)) (hf : cells + mc ≤ R.cells ∧ slots + ms ≤ R.slots) :
    vx_Run p l e R s m args below meth c H locs cells slots mc ms g rest (Qc (Value.ref b :: As).toArray) XC free := by
  obtain ⟨⟨hrc, hrs, hfr, hlo, hws, hcw⟩, hcode, hini, hy, hlen, hl, hin, hse⟩ := cw
  have hK : vx_Back l R p e below s args y 3 8 (PreOf R mc ms Pc) (PostOf Qc mc ms free) (vx_Post XC mc ms free) := vx_backW (hh := hh) (bytes := bytes) (maxL := maxL) (ret := ret) hM hp.1 hrc hrs hfr hlo hws hcw (fun a' U hW => word_at hW (Or.inl (by first | rfl | simp [Cond.onTables, Cond.keeps, Cond.steady])) hini)
  obtain ⟨hx, hb, hml, ho, -⟩ := S
  obtain ⟨-, ⟨cellB, hcB, hoB, hclB⟩, hPc⟩ := hp
  intro T hT X
  rcases vx_callVX X hx (C := C) (hh := hh) (bytes := bytes) (maxL := maxL) (ret := ret) ho hl hin hse hcode hy hK (by rw [hT]; exact hcB) hoB hclB hg (hsize.trans hml.symm) (argsL := As) (rest := rest) (fun sig h => hn.trans (hlen sig h)) hstack hW (by rw [hb]; exact hdg)
    (fun vm₁ hW₁ => ⟨hf.1, hf.2, hPc (T.setVm vm₁) hT hW₁⟩) with ⟨v, vm₁, ⟨U', l2, c2, s2⟩, hW₁, X', ⟨g', mk, t, L, e1, e2, hq, h1, hL, h2, h3⟩, st⟩ | ⟨q, vm₁, ⟨U', l2, c2, s2⟩, hW₁, X', ⟨g', mk, t, L, E, ce, e1, e2, hq, hce, hcv, hcl, h1, hL, h2, h3⟩, st⟩
  · dsimp only [Pt.U, Pt.locs, Pt.cells, Pt.slots] at X' e1 e2 h1 h2 h3 st
    subst h1; subst h2; subst h3
    exact Or.inl ⟨v, (T.setVm vm₁).calling g' mk (Value.ref b :: As).toArray, t, U', L, hT, X', hL, e1, e2, hq, st⟩
  · dsimp only [Pt.U, Pt.locs, Pt.cells, Pt.slots] at X' e1 e2 h1 h2 h3 st hcl
    subst h1; subst h2; subst h3
    exact Or.inr ⟨q, (T.setVm vm₁).calling g' mk (Value.ref b :: As).toArray, t, U', L, E, ce, hT, X', hL, e1, e2, hq, hce, hcv, vx_cls hW₁ hcl, st⟩
theorem vx_runSX {hh : List (Nat × Nat × Nat × Nat)} (S : CallFix p m c cc nL s args Ts own) (hM : vx_Met l y ws rm Pc Qc XC mc ms free) (cw : vx_CSW R s args own index y bytes maxL ret hh ws rm mc ms n) (hp : PreS s H Pc As)
    (hg : g.method = m) (hn : As.length = n) (hsize : g.locals.size = nL) (hstack : g.stack = As.reverse ++ rest) (hW : 2 * g.monitorRoom + (rest.map fun v => v.category).sum ≤ 8) (hdg : decode cc g.pc = .ok (.invokestatic index, 3)) (hf : cells + mc ≤ R.cells ∧ slots + ms ≤ R.slots) :
    vx_Run p l e R s m args below meth c H locs cells slots mc ms g rest (Qc As.toArray) XC free := by
  obtain ⟨⟨hrc, hrs, hfr, hlo, hws, hcw⟩, hcode, hini, hy, hlen, hl, hstt⟩ := cw
  have hK : vx_Back l R p e below s args y 3 8 (PreOf R mc ms Pc) (PostOf Qc mc ms free) (vx_Post XC mc ms free) := vx_backW (hh := hh) (bytes := bytes) (maxL := maxL) (ret := ret) hM hp.1 hrc hrs hfr hlo hws hcw (fun a' U hW => word_at hW (Or.inl (by first | rfl | simp [Cond.onTables, Cond.keeps, Cond.steady])) hini)
  obtain ⟨hx, hb, hml, ho, -⟩ := S
  intro T hT X
  rcases vx_callSX X hx (hh := hh) (bytes := bytes) (maxL := maxL) (ret := ret) ho hl hstt hini hcode hy hK hg (hsize.trans hml.symm) (argsL := As) (rest := rest) (fun sig h => hn.trans (hlen sig h)) hstack hW (by rw [hb]; exact hdg)
    (fun vm₁ hW₁ => ⟨hf.1, hf.2, hp.2 (T.setVm vm₁) hT hW₁⟩) with ⟨v, vm₁, ⟨U', l2, c2, s2⟩, hW₁, X', ⟨g', mk, t, L, e1, e2, hq, h1, hL, h2, h3⟩, st⟩ | ⟨q, vm₁, ⟨U', l2, c2, s2⟩, hW₁, X', ⟨g', mk, t, L, E, ce, e1, e2, hq, hce, hcv, hcl, h1, hL, h2, h3⟩, st⟩
  · dsimp only [Pt.U, Pt.locs, Pt.cells, Pt.slots] at X' e1 e2 h1 h2 h3 st
    subst h1; subst h2; subst h3
    exact Or.inl ⟨v, (T.setVm vm₁).calling g' mk As.toArray, t, U', L, hT, X', hL, e1, e2, hq, st⟩
  · dsimp only [Pt.U, Pt.locs, Pt.cells, Pt.slots] at X' e1 e2 h1 h2 h3 st hcl
    subst h1; subst h2; subst h3
    exact Or.inr ⟨q, (T.setVm vm₁).calling g' mk As.toArray, t, U', L, E, ce, hT, X', hL, e1, e2, hq, hce, hcv, vx_cls hW₁ hcl, st⟩
end
end VXH
theorem vx_ofWH {l : Launch} {y : MethodName} {ws ws' : List Cond} {rm : Room} {Pc : Array Value → State → Prop} {Qc : Array Value → State → Outcome → State → Prop} {XC : String → State → State → Prop} {mc ms : Nat} {free : Addr → Prop} {cc : ByteArray} {maxL : Nat} {ret : Option FieldType} {hh : List (Nat × Nat × Nat × Nat)}
    (hy : plainName y.cls = true) (hw : ws = Cond.codeWith y cc maxL ret hh :: ws')
    (body : ∀ p e s m args below meth c s₁, BodyLoose p l y (headSpec ws rm) cc maxL ret e s m args below meth c s₁ → c.maxLocals = maxL → Pc args s →
      W p l e (headSpec ws rm).room s m args below meth c s.heap [] 0 0 (vx_MQ below Qc XC args s mc ms free) (entryFrame m args maxL)) : vx_Met l y ws rm Pc Qc XC mc ms free := by
  refine MetFree.of_bodyS (code := cc) (maxLocals := maxL) (ret := ret) hy ?_ ?_
  · intro args s m h hn
    obtain ⟨m9, meth, c, hn9, h1, h2, h3, h4, -, h5, h6, -⟩ := Cond.codeWith_spec (atoms_spec (ws := ws) h _ (by rw [hw]; exact List.mem_cons_self))
    cases hn.symm.trans hn9
    exact ⟨meth, c, h1, h2, h3, h4, h5, h6⟩
  · intro p e s m args below meth c s₁ B hml hP _
    have hh0 : s₁.heap = s.heap := by rw [B.state]; rfl
    obtain ⟨t, a1, o, b1, b2, b3⟩ := body p e s m args below meth c s₁ B hml hP s₁ hh0 (Stand.of_body B)
    exact ⟨t, o, a1, b1, b2, b3⟩
/-! ===== END ===== -/
end
section
/-! ===== BEGIN printed: names, fields, word lists, decode rows ===== -/
def RX0 : String := "FifthBeats$Piano"
def TX0 : u_T := fun k => match k with
  | 0 => ("FifthBeats$Piano", "narrow", "[I", true)
  | 1 => ("FifthBeats$Piano", "off", "[I", true)
  | 2 => ("FifthBeats$Piano", "drift", "[I", true)
  | 3 => ("FifthBeats$Piano", "often", "[I", true)
  | 4 => ("FifthBeats$Piano", "wolf", "I", false)
  | _ => ("FifthBeats$Piano", "day", "I", false)
def tyX0 : Nat → FieldType := fun k => match k with
  | 0 => .array .int
  | 1 => .array .int
  | 2 => .array .int
  | 3 => .array .int
  | 4 => .int
  | _ => .int
abbrev wsX00 : List Cond := u_ws RX0 TX0 6
theorem nmX0 : ∀ a, a < 6 → ∀ b, b < 6 → a ≠ b → (TX0 a).2.1 ≠ (TX0 b).2.1 := by decide +kernel
theorem tyX0_ok : ∀ k, k < 6 → parseFieldDescriptor (TX0 k).2.2.1 = some (tyX0 k) := by decide +kernel
abbrev cX0_init : ByteArray := prog_2_method_1_code
def yX0_init : MethodName := ⟨RX0, "<init>", "()V"⟩
abbrev cX0_plan : ByteArray := prog_2_method_2_code
def yX0_plan : MethodName := ⟨RX0, "plan", "(II)V"⟩
abbrev cX0_giveWolfTheRest : ByteArray := prog_2_method_3_code
def yX0_giveWolfTheRest : MethodName := ⟨RX0, "giveWolfTheRest", "()V"⟩
abbrev cX0_wolfNarrow : ByteArray := prog_2_method_4_code
def yX0_wolfNarrow : MethodName := ⟨RX0, "wolfNarrow", "()I"⟩
abbrev cX0_moveWolf : ByteArray := prog_2_method_5_code
def yX0_moveWolf : MethodName := ⟨RX0, "moveWolf", "(I)V"⟩
abbrev cX0_spreadComma : ByteArray := prog_2_method_6_code
def yX0_spreadComma : MethodName := ⟨RX0, "spreadComma", "(I)V"⟩
abbrev cX0_canTune : ByteArray := prog_2_method_7_code
def yX0_canTune : MethodName := ⟨RX0, "canTune", "(I)Z"⟩
abbrev cX0_tuneOne : ByteArray := prog_2_method_8_code
def yX0_tuneOne : MethodName := ⟨RX0, "tuneOne", "(I)I"⟩
abbrev cX0_tuneRound : ByteArray := prog_2_method_9_code
def yX0_tuneRound : MethodName := ⟨RX0, "tuneRound", "()I"⟩
abbrev cX0_offForPureMajor : ByteArray := prog_2_method_10_code
def yX0_offForPureMajor : MethodName := ⟨RX0, "offForPureMajor", "(I)I"⟩
abbrev cX0_letPass : ByteArray := prog_2_method_11_code
def yX0_letPass : MethodName := ⟨RX0, "letPass", "(I)V"⟩
abbrev cX0_narrowness : ByteArray := prog_2_method_12_code
def yX0_narrowness : MethodName := ⟨RX0, "narrowness", "(I)I"⟩
abbrev cX0_fifthWidth : ByteArray := prog_2_method_13_code
def yX0_fifthWidth : MethodName := ⟨RX0, "fifthWidth", "(I)I"⟩
abbrev cX0_fifthBeats : ByteArray := prog_2_method_14_code
def yX0_fifthBeats : MethodName := ⟨RX0, "fifthBeats", "(I)I"⟩
abbrev cX0_majorOff : ByteArray := prog_2_method_15_code
def yX0_majorOff : MethodName := ⟨RX0, "majorOff", "(I)I"⟩
abbrev cX0_majorBeats : ByteArray := prog_2_method_16_code
def yX0_majorBeats : MethodName := ⟨RX0, "majorBeats", "(I)I"⟩
abbrev cX0_minorWidth : ByteArray := prog_2_method_17_code
def yX0_minorWidth : MethodName := ⟨RX0, "minorWidth", "(I)I"⟩
abbrev cX0_keyboardNumber : ByteArray := prog_2_method_18_code
def yX0_keyboardNumber : MethodName := ⟨RX0, "keyboardNumber", "(I)I"⟩
abbrev cX0_swings : ByteArray := prog_2_method_19_code
def yX0_swings : MethodName := ⟨RX0, "swings", "(I)I"⟩
abbrev cX0_height : ByteArray := prog_2_method_20_code
def yX0_height : MethodName := ⟨RX0, "height", "(I)I"⟩
abbrev cX0_sourness : ByteArray := prog_2_method_21_code
def yX0_sourness : MethodName := ⟨RX0, "sourness", "(I)I"⟩
abbrev cX0_place : ByteArray := prog_2_method_22_code
def yX0_place : MethodName := ⟨RX0, "place", "(I)I"⟩
abbrev cX0_cost : ByteArray := prog_2_method_23_code
def yX0_cost : MethodName := ⟨RX0, "cost", "()I"⟩
abbrev cX0_mostMajorOff : ByteArray := prog_2_method_24_code
def yX0_mostMajorOff : MethodName := ⟨RX0, "mostMajorOff", "()I"⟩
abbrev cX0_pureFifths : ByteArray := prog_2_method_25_code
def yX0_pureFifths : MethodName := ⟨RX0, "pureFifths", "()I"⟩
abbrev cX0_mostOff : ByteArray := prog_2_method_26_code
def yX0_mostOff : MethodName := ⟨RX0, "mostOff", "()I"⟩
abbrev cX0_allOff : ByteArray := prog_2_method_27_code
def yX0_allOff : MethodName := ⟨RX0, "allOff", "()I"⟩
abbrev cX0_fastestBeats : ByteArray := prog_2_method_28_code
def yX0_fastestBeats : MethodName := ⟨RX0, "fastestBeats", "()I"⟩
abbrev cX0_tellFifth : ByteArray := prog_2_method_29_code
def yX0_tellFifth : MethodName := ⟨RX0, "tellFifth", "(II)I"⟩
abbrev cX0_tellMajor : ByteArray := prog_2_method_30_code
def yX0_tellMajor : MethodName := ⟨RX0, "tellMajor", "(II)I"⟩
abbrev cX0_tellMinor : ByteArray := prog_2_method_31_code
def yX0_tellMinor : MethodName := ⟨RX0, "tellMinor", "(II)I"⟩
abbrev cX0_tellNote : ByteArray := prog_2_method_32_code
def yX0_tellNote : MethodName := ⟨RX0, "tellNote", "(II)I"⟩
abbrev cX0_tellKey : ByteArray := prog_2_method_33_code
def yX0_tellKey : MethodName := ⟨RX0, "tellKey", "(II)I"⟩
abbrev cX0_tellCount : ByteArray := prog_2_method_34_code
def yX0_tellCount : MethodName := ⟨RX0, "tellCount", "(I)I"⟩
def RX1 : String := "FifthBeats"
def TX1 : u_T := fun k => match k with
  | 0 => ("FifthBeats", "piano", "LFifthBeats$Piano;", true)
  | _ => ("FifthBeats", "trial", "LFifthBeats$Piano;", true)
def tyX1 : Nat → FieldType := fun k => match k with
  | 0 => .object "FifthBeats$Piano"
  | _ => .object "FifthBeats$Piano"
abbrev wsX10 : List Cond := u_ws RX1 TX1 2
theorem nmX1 : ∀ a, a < 2 → ∀ b, b < 2 → a ≠ b → (TX1 a).2.1 ≠ (TX1 b).2.1 := by decide +kernel
theorem tyX1_ok : ∀ k, k < 2 → parseFieldDescriptor (TX1 k).2.2.1 = some (tyX1 k) := by decide +kernel
abbrev cX1_init : ByteArray := prog_1_method_1_code
def yX1_init : MethodName := ⟨RX1, "<init>", "()V"⟩
abbrev cX1_setFifth : ByteArray := prog_1_method_2_code
def yX1_setFifth : MethodName := ⟨RX1, "setFifth", "(II)I"⟩
abbrev cX1_shift : ByteArray := prog_1_method_3_code
def yX1_shift : MethodName := ⟨RX1, "shift", "(I)I"⟩
abbrev cX1_spread : ByteArray := prog_1_method_4_code
def yX1_spread : MethodName := ⟨RX1, "spread", "(I)I"⟩
abbrev cX1_setOften : ByteArray := prog_1_method_5_code
def yX1_setOften : MethodName := ⟨RX1, "setOften", "(II)I"⟩
abbrev cX1_setDrift : ByteArray := prog_1_method_6_code
def yX1_setDrift : MethodName := ⟨RX1, "setDrift", "(II)I"⟩
abbrev cX1_tune : ByteArray := prog_1_method_7_code
def yX1_tune : MethodName := ⟨RX1, "tune", "(I)I"⟩
abbrev cX1_tuneAll : ByteArray := prog_1_method_8_code
def yX1_tuneAll : MethodName := ⟨RX1, "tuneAll", "()I"⟩
abbrev cX1_sweeten : ByteArray := prog_1_method_9_code
def yX1_sweeten : MethodName := ⟨RX1, "sweeten", "(I)I"⟩
abbrev cX1_pass : ByteArray := prog_1_method_10_code
def yX1_pass : MethodName := ⟨RX1, "pass", "(I)I"⟩
abbrev cX1_fifth : ByteArray := prog_1_method_11_code
def yX1_fifth : MethodName := ⟨RX1, "fifth", "(II)I"⟩
abbrev cX1_major : ByteArray := prog_1_method_12_code
def yX1_major : MethodName := ⟨RX1, "major", "(II)I"⟩
abbrev cX1_minor : ByteArray := prog_1_method_13_code
def yX1_minor : MethodName := ⟨RX1, "minor", "(II)I"⟩
abbrev cX1_note : ByteArray := prog_1_method_14_code
def yX1_note : MethodName := ⟨RX1, "note", "(II)I"⟩
abbrev cX1_key : ByteArray := prog_1_method_15_code
def yX1_key : MethodName := ⟨RX1, "key", "(II)I"⟩
abbrev cX1_count : ByteArray := prog_1_method_16_code
def yX1_count : MethodName := ⟨RX1, "count", "(I)I"⟩
abbrev cX1_foresee : ByteArray := prog_1_method_17_code
def yX1_foresee : MethodName := ⟨RX1, "foresee", "(II)I"⟩
abbrev cX1_until : ByteArray := prog_1_method_18_code
def yX1_until : MethodName := ⟨RX1, "until", "(I)I"⟩
abbrev cX1_advise : ByteArray := prog_1_method_19_code
def yX1_advise : MethodName := ⟨RX1, "advise", "()I"⟩
abbrev cX1_temper : ByteArray := prog_1_method_20_code
def yX1_temper : MethodName := ⟨RX1, "temper", "(I)I"⟩
abbrev cX1_next : ByteArray := prog_1_method_21_code
def yX1_next : MethodName := ⟨RX1, "next", "()I"⟩
abbrev cX1_mean : ByteArray := prog_1_method_22_code
def yX1_mean : MethodName := ⟨RX1, "mean", "()D"⟩
abbrev cX1_digest : ByteArray := prog_1_method_23_code
def yX1_digest : MethodName := ⟨RX1, "digest", "()J"⟩
abbrev cX1_checkRing : ByteArray := prog_1_method_24_code
def yX1_checkRing : MethodName := ⟨RX1, "checkRing", "(I)V"⟩
abbrev cX1_checkWhat : ByteArray := prog_1_method_25_code
def yX1_checkWhat : MethodName := ⟨RX1, "checkWhat", "(III)V"⟩
abbrev cX1_checkArgument : ByteArray := prog_1_method_26_code
def yX1_checkArgument : MethodName := ⟨RX1, "checkArgument", "(III)V"⟩
abbrev cX1_checkNotWolf : ByteArray := prog_1_method_27_code
def yX1_checkNotWolf : MethodName := ⟨RX1, "checkNotWolf", "(I)V"⟩
abbrev cX1_startTrial : ByteArray := prog_1_method_28_code
def yX1_startTrial : MethodName := ⟨RX1, "startTrial", "()V"⟩
abbrev cX1_costWithWolf : ByteArray := prog_1_method_29_code
def yX1_costWithWolf : MethodName := ⟨RX1, "costWithWolf", "(I)I"⟩
abbrev cX1_costWithNarrow : ByteArray := prog_1_method_30_code
def yX1_costWithNarrow : MethodName := ⟨RX1, "costWithNarrow", "(II)I"⟩
abbrev cX1_costWithTuned : ByteArray := prog_1_method_31_code
def yX1_costWithTuned : MethodName := ⟨RX1, "costWithTuned", "(I)I"⟩
def RX2 : String := "FifthBeatsModel"
def TX2 : u_T := fun k => match k with
  | 0 => ("FifthBeatsModel", "thrown", "I", false)
  | 1 => ("FifthBeatsModel", "day", "I", false)
  | 2 => ("FifthBeatsModel", "wolf", "I", false)
  | 3 => ("FifthBeatsModel", "plan", "[I", true)
  | 4 => ("FifthBeatsModel", "drift", "[I", true)
  | 5 => ("FifthBeatsModel", "often", "[I", true)
  | _ => ("FifthBeatsModel", "off", "[I", false)
def tyX2 : Nat → FieldType := fun k => match k with
  | 0 => .int
  | 1 => .int
  | 2 => .int
  | 3 => .array .int
  | 4 => .array .int
  | 5 => .array .int
  | _ => .array .int
abbrev wsX20 : List Cond := u_ws RX2 TX2 7
theorem nmX2 : ∀ a, a < 7 → ∀ b, b < 7 → a ≠ b → (TX2 a).2.1 ≠ (TX2 b).2.1 := by decide +kernel
theorem tyX2_ok : ∀ k, k < 7 → parseFieldDescriptor (TX2 k).2.2.1 = some (tyX2 k) := by decide +kernel
abbrev cX2_init : ByteArray := prog_4_method_1_code
def yX2_init : MethodName := ⟨RX2, "<init>", "()V"⟩
abbrev cX2_thrown : ByteArray := prog_4_method_2_code
def yX2_thrown : MethodName := ⟨RX2, "thrown", "()I"⟩
abbrev cX2_no : ByteArray := prog_4_method_3_code
def yX2_no : MethodName := ⟨RX2, "no", "(I)I"⟩
abbrev cX2_isIn : ByteArray := prog_4_method_4_code
def yX2_isIn : MethodName := ⟨RX2, "isIn", "(III)Z"⟩
abbrev cX2_isOne : ByteArray := prog_4_method_5_code
def yX2_isOne : MethodName := ⟨RX2, "isOne", "(I)Z"⟩
abbrev cX2_held : ByteArray := prog_4_method_6_code
def yX2_held : MethodName := ⟨RX2, "held", "(I)I"⟩
abbrev cX2_planOf : ByteArray := prog_4_method_7_code
def yX2_planOf : MethodName := ⟨RX2, "planOf", "(I)I"⟩
abbrev cX2_offOf : ByteArray := prog_4_method_8_code
def yX2_offOf : MethodName := ⟨RX2, "offOf", "(I)I"⟩
abbrev cX2_narrow : ByteArray := prog_4_method_9_code
def yX2_narrow : MethodName := ⟨RX2, "narrow", "(II)I"⟩
abbrev cX2_majorOff : ByteArray := prog_4_method_10_code
def yX2_majorOff : MethodName := ⟨RX2, "majorOff", "(I)I"⟩
abbrev cX2_minorOff : ByteArray := prog_4_method_11_code
def yX2_minorOff : MethodName := ⟨RX2, "minorOff", "(I)I"⟩
abbrev cX2_keyOf : ByteArray := prog_4_method_12_code
def yX2_keyOf : MethodName := ⟨RX2, "keyOf", "(I)I"⟩
abbrev cX2_beats : ByteArray := prog_4_method_13_code
def yX2_beats : MethodName := ⟨RX2, "beats", "(III)I"⟩
abbrev cX2_fifthBeats : ByteArray := prog_4_method_14_code
def yX2_fifthBeats : MethodName := ⟨RX2, "fifthBeats", "(I)I"⟩
abbrev cX2_sour : ByteArray := prog_4_method_15_code
def yX2_sour : MethodName := ⟨RX2, "sour", "(I)I"⟩
abbrev cX2_costs : ByteArray := prog_4_method_16_code
def yX2_costs : MethodName := ⟨RX2, "costs", "()I"⟩
abbrev cX2_place : ByteArray := prog_4_method_17_code
def yX2_place : MethodName := ⟨RX2, "place", "(I)I"⟩
abbrev cX2_fastest : ByteArray := prog_4_method_18_code
def yX2_fastest : MethodName := ⟨RX2, "fastest", "()I"⟩
abbrev cX2_setFifth : ByteArray := prog_4_method_19_code
def yX2_setFifth : MethodName := ⟨RX2, "setFifth", "(II)I"⟩
abbrev cX2_shiftTo : ByteArray := prog_4_method_20_code
def yX2_shiftTo : MethodName := ⟨RX2, "shiftTo", "(I)V"⟩
abbrev cX2_shift : ByteArray := prog_4_method_21_code
def yX2_shift : MethodName := ⟨RX2, "shift", "(I)I"⟩
abbrev cX2_spread : ByteArray := prog_4_method_22_code
def yX2_spread : MethodName := ⟨RX2, "spread", "(I)I"⟩
abbrev cX2_setOften : ByteArray := prog_4_method_23_code
def yX2_setOften : MethodName := ⟨RX2, "setOften", "(II)I"⟩
abbrev cX2_setDrift : ByteArray := prog_4_method_24_code
def yX2_setDrift : MethodName := ⟨RX2, "setDrift", "(II)I"⟩
abbrev cX2_ahead : ByteArray := prog_4_method_25_code
def yX2_ahead : MethodName := ⟨RX2, "ahead", "(I)I"⟩
abbrev cX2_canTune : ByteArray := prog_4_method_26_code
def yX2_canTune : MethodName := ⟨RX2, "canTune", "(I)Z"⟩
abbrev cX2_tuned : ByteArray := prog_4_method_27_code
def yX2_tuned : MethodName := ⟨RX2, "tuned", "(I)I"⟩
abbrev cX2_tune : ByteArray := prog_4_method_28_code
def yX2_tune : MethodName := ⟨RX2, "tune", "(I)I"⟩
abbrev cX2_tuneAll : ByteArray := prog_4_method_29_code
def yX2_tuneAll : MethodName := ⟨RX2, "tuneAll", "()I"⟩
abbrev cX2_sweeten : ByteArray := prog_4_method_30_code
def yX2_sweeten : MethodName := ⟨RX2, "sweeten", "(I)I"⟩
abbrev cX2_pass : ByteArray := prog_4_method_31_code
def yX2_pass : MethodName := ⟨RX2, "pass", "()V"⟩
abbrev cX2_pass_ : ByteArray := prog_4_method_32_code
def yX2_pass_ : MethodName := ⟨RX2, "pass", "(I)I"⟩
abbrev cX2_fifthTold : ByteArray := prog_4_method_33_code
def yX2_fifthTold : MethodName := ⟨RX2, "fifthTold", "(II)I"⟩
abbrev cX2_fifth : ByteArray := prog_4_method_34_code
def yX2_fifth : MethodName := ⟨RX2, "fifth", "(II)I"⟩
abbrev cX2_majorTold : ByteArray := prog_4_method_35_code
def yX2_majorTold : MethodName := ⟨RX2, "majorTold", "(II)I"⟩
abbrev cX2_major : ByteArray := prog_4_method_36_code
def yX2_major : MethodName := ⟨RX2, "major", "(II)I"⟩
abbrev cX2_minorTold : ByteArray := prog_4_method_37_code
def yX2_minorTold : MethodName := ⟨RX2, "minorTold", "(II)I"⟩
abbrev cX2_minor : ByteArray := prog_4_method_38_code
def yX2_minor : MethodName := ⟨RX2, "minor", "(II)I"⟩
abbrev cX2_noteTold : ByteArray := prog_4_method_39_code
def yX2_noteTold : MethodName := ⟨RX2, "noteTold", "(II)I"⟩
abbrev cX2_note : ByteArray := prog_4_method_40_code
def yX2_note : MethodName := ⟨RX2, "note", "(II)I"⟩
abbrev cX2_keyTold : ByteArray := prog_4_method_41_code
def yX2_keyTold : MethodName := ⟨RX2, "keyTold", "(II)I"⟩
abbrev cX2_key : ByteArray := prog_4_method_42_code
def yX2_key : MethodName := ⟨RX2, "key", "(II)I"⟩
abbrev cX2_counted : ByteArray := prog_4_method_43_code
def yX2_counted : MethodName := ⟨RX2, "counted", "(I)I"⟩
abbrev cX2_count : ByteArray := prog_4_method_44_code
def yX2_count : MethodName := ⟨RX2, "count", "(I)I"⟩
abbrev cX2_copyOf : ByteArray := prog_4_method_45_code
def yX2_copyOf : MethodName := ⟨RX2, "copyOf", "([I)[I"⟩
abbrev cX2_foresee : ByteArray := prog_4_method_46_code
def yX2_foresee : MethodName := ⟨RX2, "foresee", "(II)I"⟩
abbrev cX2_until : ByteArray := prog_4_method_47_code
def yX2_until : MethodName := ⟨RX2, "until", "(I)I"⟩
abbrev cX2_advise : ByteArray := prog_4_method_48_code
def yX2_advise : MethodName := ⟨RX2, "advise", "()I"⟩
abbrev cX2_temper : ByteArray := prog_4_method_49_code
def yX2_temper : MethodName := ⟨RX2, "temper", "(I)I"⟩
abbrev cX2_next : ByteArray := prog_4_method_50_code
def yX2_next : MethodName := ⟨RX2, "next", "()I"⟩
abbrev cX2_mean : ByteArray := prog_4_method_51_code
def yX2_mean : MethodName := ⟨RX2, "mean", "()D"⟩
abbrev cX2_digest : ByteArray := prog_4_method_52_code
def yX2_digest : MethodName := ⟨RX2, "digest", "()J"⟩
def RJ9 : String := "java/lang/Math"
def TJ9 : u_T := fun k => match k with
  | _ => ("", "", "", false)
def tyJ9 : Nat → FieldType := fun k => match k with
  | _ => .int
abbrev wsJ90 : List Cond := u_ws RJ9 TJ9 0
theorem nmJ9 : ∀ a, a < 0 → ∀ b, b < 0 → a ≠ b → (TJ9 a).2.1 ≠ (TJ9 b).2.1 := by decide +kernel
theorem tyJ9_ok : ∀ k, k < 0 → parseFieldDescriptor (TJ9 k).2.2.1 = some (tyJ9 k) := by decide +kernel
abbrev cJ9_floorMod_7cf53 : ByteArray := prog_9_method_50_code
def yJ9_floorMod_7cf53 : MethodName := ⟨RJ9, "floorMod", "(II)I"⟩
abbrev cJ9_abs_0f7a4 : ByteArray := prog_9_method_59_code
def yJ9_abs_0f7a4 : MethodName := ⟨RJ9, "abs", "(I)I"⟩
abbrev cJ9_max_7cf53 : ByteArray := prog_9_method_65_code
def yJ9_max_7cf53 : MethodName := ⟨RJ9, "max", "(II)I"⟩
abbrev cJ9_min_7cf53 : ByteArray := prog_9_method_69_code
def yJ9_min_7cf53 : MethodName := ⟨RJ9, "min", "(II)I"⟩
def RJ0 : String := "java/lang/String"
def TJ0 : u_T := fun k => match k with
  | _ => ("", "", "", false)
def tyJ0 : Nat → FieldType := fun k => match k with
  | _ => .int
abbrev wsJ00 : List Cond := u_ws RJ0 TJ0 0
theorem nmJ0 : ∀ a, a < 0 → ∀ b, b < 0 → a ≠ b → (TJ0 a).2.1 ≠ (TJ0 b).2.1 := by decide +kernel
theorem tyJ0_ok : ∀ k, k < 0 → parseFieldDescriptor (TJ0 k).2.2.1 = some (tyJ0 k) := by decide +kernel
def RJ10 : String := "java/lang/System"
def TJ10 : u_T := fun k => match k with
  | _ => ("", "", "", false)
def tyJ10 : Nat → FieldType := fun k => match k with
  | _ => .int
abbrev wsJ100 : List Cond := u_ws RJ10 TJ10 0
theorem nmJ10 : ∀ a, a < 0 → ∀ b, b < 0 → a ≠ b → (TJ10 a).2.1 ≠ (TJ10 b).2.1 := by decide +kernel
theorem tyJ10_ok : ∀ k, k < 0 → parseFieldDescriptor (TJ10 k).2.2.1 = some (tyJ10 k) := by decide +kernel
def RL : String := "FifthBeatsLaw"
abbrev cL_setFifth : ByteArray := method_3_code
def yL_setFifth : MethodName := ⟨RL, "setFifth", "(LFifthBeats;II[J)I"⟩
abbrev cL_shift : ByteArray := method_4_code
def yL_shift : MethodName := ⟨RL, "shift", "(LFifthBeats;I[J)I"⟩
abbrev cL_spread : ByteArray := method_5_code
def yL_spread : MethodName := ⟨RL, "spread", "(LFifthBeats;I[J)I"⟩
abbrev cL_setOften : ByteArray := method_6_code
def yL_setOften : MethodName := ⟨RL, "setOften", "(LFifthBeats;II[J)I"⟩
abbrev cL_setDrift : ByteArray := method_7_code
def yL_setDrift : MethodName := ⟨RL, "setDrift", "(LFifthBeats;II[J)I"⟩
abbrev cL_tune : ByteArray := method_8_code
def yL_tune : MethodName := ⟨RL, "tune", "(LFifthBeats;I[J)I"⟩
abbrev cL_sweeten : ByteArray := method_9_code
def yL_sweeten : MethodName := ⟨RL, "sweeten", "(LFifthBeats;I[J)I"⟩
abbrev cL_pass : ByteArray := method_10_code
def yL_pass : MethodName := ⟨RL, "pass", "(LFifthBeats;I[J)I"⟩
abbrev cL_fifth : ByteArray := method_11_code
def yL_fifth : MethodName := ⟨RL, "fifth", "(LFifthBeats;II[J)I"⟩
abbrev cL_major : ByteArray := method_12_code
def yL_major : MethodName := ⟨RL, "major", "(LFifthBeats;II[J)I"⟩
abbrev cL_minor : ByteArray := method_13_code
def yL_minor : MethodName := ⟨RL, "minor", "(LFifthBeats;II[J)I"⟩
abbrev cL_note : ByteArray := method_14_code
def yL_note : MethodName := ⟨RL, "note", "(LFifthBeats;II[J)I"⟩
abbrev cL_key : ByteArray := method_15_code
def yL_key : MethodName := ⟨RL, "key", "(LFifthBeats;II[J)I"⟩
abbrev cL_count : ByteArray := method_16_code
def yL_count : MethodName := ⟨RL, "count", "(LFifthBeats;I[J)I"⟩
abbrev cL_foresee : ByteArray := method_17_code
def yL_foresee : MethodName := ⟨RL, "foresee", "(LFifthBeats;II[J)I"⟩
abbrev cL_until : ByteArray := method_18_code
def yL_until : MethodName := ⟨RL, "until", "(LFifthBeats;I[J)I"⟩
abbrev cL_temper : ByteArray := method_19_code
def yL_temper : MethodName := ⟨RL, "temper", "(LFifthBeats;I[J)I"⟩
abbrev cL_law : ByteArray := code
def yL_law : MethodName := ⟨RL, "law", "([I)Z"⟩
def wsX0_init : List Cond := .code yX0_init cX0_init 2 none :: ([.methodLink RX0 3 objectInit, .instanceMethod objectInit, .code objectInit ⟨#[0xb1]⟩ 1 none, .arrayClass .int, .fieldLink RX0 9 "FifthBeats$Piano" "narrow" "[I", .fieldLink RX0 15 "FifthBeats$Piano" "off" "[I", .fieldLink RX0 18 "FifthBeats$Piano" "drift" "[I", .fieldLink RX0 21 "FifthBeats$Piano" "often" "[I", .fieldLink RX0 24 "FifthBeats$Piano" "wolf" "I", .fieldLink RX0 28 "FifthBeats$Piano" "day" "I"] ++ wsX00)
def wsJ9_floorMod_7cf53 : List Cond := .code yJ9_floorMod_7cf53 cJ9_floorMod_7cf53 3 (some .int) :: ([])
def wsX0_giveWolfTheRest : List Cond := .code yX0_giveWolfTheRest cX0_giveWolfTheRest 3 none :: ([.fieldLink RX0 24 "FifthBeats$Piano" "wolf" "I", .fieldLink RX0 9 "FifthBeats$Piano" "narrow" "[I", .methodLink RX0 31 yJ9_floorMod_7cf53, .static yJ9_floorMod_7cf53, .initialized RJ9, .code yJ9_floorMod_7cf53 cJ9_floorMod_7cf53 3 (some .int)] ++ wsX00)
def wsX0_plan : List Cond := .code yX0_plan cX0_plan 3 none :: ([.fieldLink RX0 9 "FifthBeats$Piano" "narrow" "[I", .methodLink RX0 31 yJ9_floorMod_7cf53, .static yJ9_floorMod_7cf53, .initialized RJ9, .code yJ9_floorMod_7cf53 cJ9_floorMod_7cf53 3 (some .int), .methodLink RX0 37 yX0_giveWolfTheRest, .instanceMethod yX0_giveWolfTheRest, .selects RX0 yX0_giveWolfTheRest yX0_giveWolfTheRest, .initialized RX0, .code yX0_giveWolfTheRest cX0_giveWolfTheRest 3 none, .fieldLink RX0 24 "FifthBeats$Piano" "wolf" "I"] ++ wsX00)
def wsX0_wolfNarrow : List Cond := .code yX0_wolfNarrow cX0_wolfNarrow 1 (some .int) :: ([.fieldLink RX0 9 "FifthBeats$Piano" "narrow" "[I", .fieldLink RX0 24 "FifthBeats$Piano" "wolf" "I", .methodLink RX0 31 yJ9_floorMod_7cf53, .static yJ9_floorMod_7cf53, .initialized RJ9, .code yJ9_floorMod_7cf53 cJ9_floorMod_7cf53 3 (some .int)] ++ wsX00)
def wsX0_moveWolf : List Cond := .code yX0_moveWolf cX0_moveWolf 5 none :: ([.fieldLink RX0 24 "FifthBeats$Piano" "wolf" "I", .fieldLink RX0 9 "FifthBeats$Piano" "narrow" "[I", .methodLink RX0 31 yJ9_floorMod_7cf53, .static yJ9_floorMod_7cf53, .initialized RJ9, .code yJ9_floorMod_7cf53 cJ9_floorMod_7cf53 3 (some .int)] ++ wsX00)
def wsX0_spreadComma : List Cond := .code yX0_spreadComma cX0_spreadComma 6 none :: ([.fieldLink RX0 9 "FifthBeats$Piano" "narrow" "[I", .fieldLink RX0 24 "FifthBeats$Piano" "wolf" "I", .methodLink RX0 31 yJ9_floorMod_7cf53, .static yJ9_floorMod_7cf53, .initialized RJ9, .code yJ9_floorMod_7cf53 cJ9_floorMod_7cf53 3 (some .int), .methodLink RX0 37 yX0_giveWolfTheRest, .instanceMethod yX0_giveWolfTheRest, .selects RX0 yX0_giveWolfTheRest yX0_giveWolfTheRest, .initialized RX0, .code yX0_giveWolfTheRest cX0_giveWolfTheRest 3 none] ++ wsX00)
def wsX0_canTune : List Cond := .code yX0_canTune cX0_canTune 2 (some .boolean) :: ([.fieldLink RX0 24 "FifthBeats$Piano" "wolf" "I", .methodLink RX0 31 yJ9_floorMod_7cf53, .static yJ9_floorMod_7cf53, .initialized RJ9, .code yJ9_floorMod_7cf53 cJ9_floorMod_7cf53 3 (some .int)] ++ wsX00)
def wsX0_tuneOne : List Cond := .code yX0_tuneOne cX0_tuneOne 4 (some .int) :: ([.fieldLink RX0 15 "FifthBeats$Piano" "off" "[I", .methodLink RX0 31 yJ9_floorMod_7cf53, .static yJ9_floorMod_7cf53, .initialized RJ9, .code yJ9_floorMod_7cf53 cJ9_floorMod_7cf53 3 (some .int)] ++ wsX00)
def wsX0_tuneRound : List Cond := .code yX0_tuneRound cX0_tuneRound 3 (some .int) :: ([.fieldLink RX0 24 "FifthBeats$Piano" "wolf" "I", .methodLink RX0 40 yX0_tuneOne, .instanceMethod yX0_tuneOne, .selects RX0 yX0_tuneOne yX0_tuneOne, .initialized RX0, .code yX0_tuneOne cX0_tuneOne 4 (some .int), .fieldLink RX0 15 "FifthBeats$Piano" "off" "[I", .methodLink RX0 31 yJ9_floorMod_7cf53, .static yJ9_floorMod_7cf53, .initialized RJ9, .code yJ9_floorMod_7cf53 cJ9_floorMod_7cf53 3 (some .int)] ++ wsX00)
def wsX0_narrowness : List Cond := .code yX0_narrowness cX0_narrowness 4 (some .int) :: ([.fieldLink RX0 9 "FifthBeats$Piano" "narrow" "[I", .fieldLink RX0 15 "FifthBeats$Piano" "off" "[I", .methodLink RX0 31 yJ9_floorMod_7cf53, .static yJ9_floorMod_7cf53, .initialized RJ9, .code yJ9_floorMod_7cf53 cJ9_floorMod_7cf53 3 (some .int)] ++ wsX00)
def wsX0_majorOff : List Cond := .code yX0_majorOff cX0_majorOff 4 (some .int) :: ([.methodLink RX0 53 yX0_narrowness, .instanceMethod yX0_narrowness, .selects RX0 yX0_narrowness yX0_narrowness, .initialized RX0, .code yX0_narrowness cX0_narrowness 4 (some .int), .fieldLink RX0 9 "FifthBeats$Piano" "narrow" "[I", .fieldLink RX0 15 "FifthBeats$Piano" "off" "[I", .methodLink RX0 31 yJ9_floorMod_7cf53, .static yJ9_floorMod_7cf53, .initialized RJ9, .code yJ9_floorMod_7cf53 cJ9_floorMod_7cf53 3 (some .int)] ++ wsX00)
def wsX0_offForPureMajor : List Cond := .code yX0_offForPureMajor cX0_offForPureMajor 2 (some .int) :: ([.fieldLink RX0 15 "FifthBeats$Piano" "off" "[I", .methodLink RX0 31 yJ9_floorMod_7cf53, .static yJ9_floorMod_7cf53, .initialized RJ9, .code yJ9_floorMod_7cf53 cJ9_floorMod_7cf53 3 (some .int), .methodLink RX0 44 yX0_majorOff, .instanceMethod yX0_majorOff, .selects RX0 yX0_majorOff yX0_majorOff, .initialized RX0, .code yX0_majorOff cX0_majorOff 4 (some .int), .methodLink RX0 53 yX0_narrowness, .instanceMethod yX0_narrowness, .selects RX0 yX0_narrowness yX0_narrowness, .code yX0_narrowness cX0_narrowness 4 (some .int), .fieldLink RX0 9 "FifthBeats$Piano" "narrow" "[I"] ++ wsX00)
def wsX0_letPass : List Cond := .code yX0_letPass cX0_letPass 4 none :: ([.fieldLink RX0 15 "FifthBeats$Piano" "off" "[I", .fieldLink RX0 18 "FifthBeats$Piano" "drift" "[I", .methodLink RX0 47 Lib.Math.min.name, .static Lib.Math.min.name, .initialized "java/lang/Math", .code Lib.Math.min.name Lib.Math.min.code 2 (some .int), .methodLink RX0 50 Lib.Math.max.name, .static Lib.Math.max.name, .code Lib.Math.max.name Lib.Math.max.code 2 (some .int), .fieldLink RX0 28 "FifthBeats$Piano" "day" "I"] ++ wsX00)
def wsX0_fifthWidth : List Cond := .code yX0_fifthWidth cX0_fifthWidth 2 (some .int) :: ([.methodLink RX0 53 yX0_narrowness, .instanceMethod yX0_narrowness, .selects RX0 yX0_narrowness yX0_narrowness, .initialized RX0, .code yX0_narrowness cX0_narrowness 4 (some .int), .fieldLink RX0 9 "FifthBeats$Piano" "narrow" "[I", .fieldLink RX0 15 "FifthBeats$Piano" "off" "[I", .methodLink RX0 31 yJ9_floorMod_7cf53, .static yJ9_floorMod_7cf53, .initialized RJ9, .code yJ9_floorMod_7cf53 cJ9_floorMod_7cf53 3 (some .int)] ++ wsX00)
def wsX0_keyboardNumber : List Cond := .code yX0_keyboardNumber cX0_keyboardNumber 2 (some .int) :: ([.methodLink RX0 31 yJ9_floorMod_7cf53, .static yJ9_floorMod_7cf53, .initialized RJ9, .code yJ9_floorMod_7cf53 cJ9_floorMod_7cf53 3 (some .int)])
def wsX0_swings : List Cond := .code yX0_swings cX0_swings 2 (some .int) :: ([.methodLink RX0 65 yX0_keyboardNumber, .instanceMethod yX0_keyboardNumber, .selects RX0 yX0_keyboardNumber yX0_keyboardNumber, .initialized RX0, .code yX0_keyboardNumber cX0_keyboardNumber 2 (some .int), .methodLink RX0 31 yJ9_floorMod_7cf53, .static yJ9_floorMod_7cf53, .initialized RJ9, .code yJ9_floorMod_7cf53 cJ9_floorMod_7cf53 3 (some .int)])
def wsX0_fifthBeats : List Cond := .code yX0_fifthBeats cX0_fifthBeats 2 (some .int) :: ([.methodLink RX0 59 Lib.Math.abs.name, .static Lib.Math.abs.name, .initialized "java/lang/Math", .code Lib.Math.abs.name Lib.Math.abs.code 1 (some .int), .methodLink RX0 56 yX0_swings, .instanceMethod yX0_swings, .selects RX0 yX0_swings yX0_swings, .initialized RX0, .code yX0_swings cX0_swings 2 (some .int), .methodLink RX0 65 yX0_keyboardNumber, .instanceMethod yX0_keyboardNumber, .selects RX0 yX0_keyboardNumber yX0_keyboardNumber, .code yX0_keyboardNumber cX0_keyboardNumber 2 (some .int), .methodLink RX0 31 yJ9_floorMod_7cf53, .static yJ9_floorMod_7cf53, .initialized RJ9, .code yJ9_floorMod_7cf53 cJ9_floorMod_7cf53 3 (some .int), .methodLink RX0 53 yX0_narrowness, .instanceMethod yX0_narrowness, .selects RX0 yX0_narrowness yX0_narrowness, .code yX0_narrowness cX0_narrowness 4 (some .int), .fieldLink RX0 9 "FifthBeats$Piano" "narrow" "[I", .fieldLink RX0 15 "FifthBeats$Piano" "off" "[I"] ++ wsX00)
def wsX0_majorBeats_r1 : List Cond := [Cond.methodLink RX0 59 Lib.Math.abs.name, Cond.static Lib.Math.abs.name, Cond.initialized "java/lang/Math", Cond.code Lib.Math.abs.name Lib.Math.abs.code 1 (some .int), Cond.methodLink RX0 56 yX0_swings, Cond.instanceMethod yX0_swings, Cond.selects RX0 yX0_swings yX0_swings, Cond.initialized RX0, Cond.code yX0_swings cX0_swings 2 (some .int), Cond.methodLink RX0 65 yX0_keyboardNumber, Cond.instanceMethod yX0_keyboardNumber, Cond.selects RX0 yX0_keyboardNumber yX0_keyboardNumber, Cond.code yX0_keyboardNumber cX0_keyboardNumber 2 (some .int), Cond.methodLink RX0 31 yJ9_floorMod_7cf53, Cond.static yJ9_floorMod_7cf53, Cond.initialized RJ9, Cond.code yJ9_floorMod_7cf53 cJ9_floorMod_7cf53 3 (some .int), Cond.methodLink RX0 44 yX0_majorOff, Cond.instanceMethod yX0_majorOff, Cond.selects RX0 yX0_majorOff yX0_majorOff, Cond.code yX0_majorOff cX0_majorOff 4 (some .int), Cond.methodLink RX0 53 yX0_narrowness, Cond.instanceMethod yX0_narrowness, Cond.selects RX0 yX0_narrowness yX0_narrowness]
def wsX0_majorBeats_r2 : List Cond := [Cond.code yX0_narrowness cX0_narrowness 4 (some .int), Cond.fieldLink RX0 9 "FifthBeats$Piano" "narrow" "[I", Cond.fieldLink RX0 15 "FifthBeats$Piano" "off" "[I"]
def wsX0_majorBeats : List Cond := .code yX0_majorBeats cX0_majorBeats 2 (some .int) :: ((wsX0_majorBeats_r1 ++ wsX0_majorBeats_r2) ++ wsX00)
def wsX0_minorWidth : List Cond := .code yX0_minorWidth cX0_minorWidth 4 (some .int) :: ([.methodLink RX0 53 yX0_narrowness, .instanceMethod yX0_narrowness, .selects RX0 yX0_narrowness yX0_narrowness, .initialized RX0, .code yX0_narrowness cX0_narrowness 4 (some .int), .fieldLink RX0 9 "FifthBeats$Piano" "narrow" "[I", .fieldLink RX0 15 "FifthBeats$Piano" "off" "[I", .methodLink RX0 31 yJ9_floorMod_7cf53, .static yJ9_floorMod_7cf53, .initialized RJ9, .code yJ9_floorMod_7cf53 cJ9_floorMod_7cf53 3 (some .int)] ++ wsX00)
def wsX0_height : List Cond := .code yX0_height cX0_height 4 (some .int) :: ([.methodLink RX0 68 yX0_fifthWidth, .instanceMethod yX0_fifthWidth, .selects RX0 yX0_fifthWidth yX0_fifthWidth, .initialized RX0, .code yX0_fifthWidth cX0_fifthWidth 2 (some .int), .methodLink RX0 53 yX0_narrowness, .instanceMethod yX0_narrowness, .selects RX0 yX0_narrowness yX0_narrowness, .code yX0_narrowness cX0_narrowness 4 (some .int), .fieldLink RX0 9 "FifthBeats$Piano" "narrow" "[I", .fieldLink RX0 15 "FifthBeats$Piano" "off" "[I", .methodLink RX0 31 yJ9_floorMod_7cf53, .static yJ9_floorMod_7cf53, .initialized RJ9, .code yJ9_floorMod_7cf53 cJ9_floorMod_7cf53 3 (some .int)] ++ wsX00)
def wsX0_sourness : List Cond := .code yX0_sourness cX0_sourness 2 (some .int) :: ([.methodLink RX0 59 Lib.Math.abs.name, .static Lib.Math.abs.name, .initialized "java/lang/Math", .code Lib.Math.abs.name Lib.Math.abs.code 1 (some .int), .methodLink RX0 44 yX0_majorOff, .instanceMethod yX0_majorOff, .selects RX0 yX0_majorOff yX0_majorOff, .initialized RX0, .code yX0_majorOff cX0_majorOff 4 (some .int), .methodLink RX0 53 yX0_narrowness, .instanceMethod yX0_narrowness, .selects RX0 yX0_narrowness yX0_narrowness, .code yX0_narrowness cX0_narrowness 4 (some .int), .fieldLink RX0 9 "FifthBeats$Piano" "narrow" "[I", .fieldLink RX0 15 "FifthBeats$Piano" "off" "[I", .methodLink RX0 31 yJ9_floorMod_7cf53, .static yJ9_floorMod_7cf53, .initialized RJ9, .code yJ9_floorMod_7cf53 cJ9_floorMod_7cf53 3 (some .int)] ++ wsX00)
def wsX0_place : List Cond := .code yX0_place cX0_place 6 (some .int) :: ([.methodLink RX0 71 yX0_sourness, .instanceMethod yX0_sourness, .selects RX0 yX0_sourness yX0_sourness, .initialized RX0, .code yX0_sourness cX0_sourness 2 (some .int), .methodLink RX0 59 Lib.Math.abs.name, .static Lib.Math.abs.name, .initialized "java/lang/Math", .code Lib.Math.abs.name Lib.Math.abs.code 1 (some .int), .methodLink RX0 44 yX0_majorOff, .instanceMethod yX0_majorOff, .selects RX0 yX0_majorOff yX0_majorOff, .code yX0_majorOff cX0_majorOff 4 (some .int), .methodLink RX0 53 yX0_narrowness, .instanceMethod yX0_narrowness, .selects RX0 yX0_narrowness yX0_narrowness, .code yX0_narrowness cX0_narrowness 4 (some .int), .fieldLink RX0 9 "FifthBeats$Piano" "narrow" "[I", .fieldLink RX0 15 "FifthBeats$Piano" "off" "[I", .methodLink RX0 31 yJ9_floorMod_7cf53, .static yJ9_floorMod_7cf53, .initialized RJ9, .code yJ9_floorMod_7cf53 cJ9_floorMod_7cf53 3 (some .int)] ++ wsX00)
def wsX0_cost : List Cond := .code yX0_cost cX0_cost 3 (some .int) :: ([.fieldLink RX0 21 "FifthBeats$Piano" "often" "[I", .methodLink RX0 71 yX0_sourness, .instanceMethod yX0_sourness, .selects RX0 yX0_sourness yX0_sourness, .initialized RX0, .code yX0_sourness cX0_sourness 2 (some .int), .methodLink RX0 59 Lib.Math.abs.name, .static Lib.Math.abs.name, .initialized "java/lang/Math", .code Lib.Math.abs.name Lib.Math.abs.code 1 (some .int), .methodLink RX0 44 yX0_majorOff, .instanceMethod yX0_majorOff, .selects RX0 yX0_majorOff yX0_majorOff, .code yX0_majorOff cX0_majorOff 4 (some .int), .methodLink RX0 53 yX0_narrowness, .instanceMethod yX0_narrowness, .selects RX0 yX0_narrowness yX0_narrowness, .code yX0_narrowness cX0_narrowness 4 (some .int), .fieldLink RX0 9 "FifthBeats$Piano" "narrow" "[I", .fieldLink RX0 15 "FifthBeats$Piano" "off" "[I", .methodLink RX0 31 yJ9_floorMod_7cf53, .static yJ9_floorMod_7cf53, .initialized RJ9, .code yJ9_floorMod_7cf53 cJ9_floorMod_7cf53 3 (some .int)] ++ wsX00)
def wsX0_mostMajorOff : List Cond := .code yX0_mostMajorOff cX0_mostMajorOff 3 (some .int) :: ([.methodLink RX0 59 Lib.Math.abs.name, .static Lib.Math.abs.name, .initialized "java/lang/Math", .code Lib.Math.abs.name Lib.Math.abs.code 1 (some .int), .methodLink RX0 50 Lib.Math.max.name, .static Lib.Math.max.name, .code Lib.Math.max.name Lib.Math.max.code 2 (some .int), .methodLink RX0 44 yX0_majorOff, .instanceMethod yX0_majorOff, .selects RX0 yX0_majorOff yX0_majorOff, .initialized RX0, .code yX0_majorOff cX0_majorOff 4 (some .int), .methodLink RX0 53 yX0_narrowness, .instanceMethod yX0_narrowness, .selects RX0 yX0_narrowness yX0_narrowness, .code yX0_narrowness cX0_narrowness 4 (some .int), .fieldLink RX0 9 "FifthBeats$Piano" "narrow" "[I", .fieldLink RX0 15 "FifthBeats$Piano" "off" "[I", .methodLink RX0 31 yJ9_floorMod_7cf53, .static yJ9_floorMod_7cf53, .initialized RJ9, .code yJ9_floorMod_7cf53 cJ9_floorMod_7cf53 3 (some .int)] ++ wsX00)
def wsX0_pureFifths : List Cond := .code yX0_pureFifths cX0_pureFifths 3 (some .int) :: ([.methodLink RX0 53 yX0_narrowness, .instanceMethod yX0_narrowness, .selects RX0 yX0_narrowness yX0_narrowness, .initialized RX0, .code yX0_narrowness cX0_narrowness 4 (some .int), .fieldLink RX0 9 "FifthBeats$Piano" "narrow" "[I", .fieldLink RX0 15 "FifthBeats$Piano" "off" "[I", .methodLink RX0 31 yJ9_floorMod_7cf53, .static yJ9_floorMod_7cf53, .initialized RJ9, .code yJ9_floorMod_7cf53 cJ9_floorMod_7cf53 3 (some .int)] ++ wsX00)
def wsX0_mostOff : List Cond := .code yX0_mostOff cX0_mostOff 3 (some .int) :: ([.fieldLink RX0 15 "FifthBeats$Piano" "off" "[I", .methodLink RX0 59 Lib.Math.abs.name, .static Lib.Math.abs.name, .initialized "java/lang/Math", .code Lib.Math.abs.name Lib.Math.abs.code 1 (some .int), .methodLink RX0 50 Lib.Math.max.name, .static Lib.Math.max.name, .code Lib.Math.max.name Lib.Math.max.code 2 (some .int)] ++ wsX00)
def wsX0_allOff : List Cond := .code yX0_allOff cX0_allOff 3 (some .int) :: ([.fieldLink RX0 15 "FifthBeats$Piano" "off" "[I", .methodLink RX0 59 Lib.Math.abs.name, .static Lib.Math.abs.name, .initialized "java/lang/Math", .code Lib.Math.abs.name Lib.Math.abs.code 1 (some .int)] ++ wsX00)
def wsX0_fastestBeats_r1 : List Cond := [Cond.fieldLink RX0 24 "FifthBeats$Piano" "wolf" "I", Cond.methodLink RX0 50 Lib.Math.max.name, Cond.static Lib.Math.max.name, Cond.initialized "java/lang/Math", Cond.code Lib.Math.max.name Lib.Math.max.code 2 (some .int), Cond.methodLink RX0 74 yX0_fifthBeats, Cond.instanceMethod yX0_fifthBeats, Cond.selects RX0 yX0_fifthBeats yX0_fifthBeats, Cond.initialized RX0, Cond.code yX0_fifthBeats cX0_fifthBeats 2 (some .int), Cond.methodLink RX0 59 Lib.Math.abs.name, Cond.static Lib.Math.abs.name, Cond.code Lib.Math.abs.name Lib.Math.abs.code 1 (some .int), Cond.methodLink RX0 56 yX0_swings, Cond.instanceMethod yX0_swings, Cond.selects RX0 yX0_swings yX0_swings, Cond.code yX0_swings cX0_swings 2 (some .int), Cond.methodLink RX0 65 yX0_keyboardNumber, Cond.instanceMethod yX0_keyboardNumber, Cond.selects RX0 yX0_keyboardNumber yX0_keyboardNumber, Cond.code yX0_keyboardNumber cX0_keyboardNumber 2 (some .int), Cond.methodLink RX0 31 yJ9_floorMod_7cf53, Cond.static yJ9_floorMod_7cf53, Cond.initialized RJ9]
def wsX0_fastestBeats_r2 : List Cond := [Cond.code yJ9_floorMod_7cf53 cJ9_floorMod_7cf53 3 (some .int), Cond.methodLink RX0 53 yX0_narrowness, Cond.instanceMethod yX0_narrowness, Cond.selects RX0 yX0_narrowness yX0_narrowness, Cond.code yX0_narrowness cX0_narrowness 4 (some .int), Cond.fieldLink RX0 9 "FifthBeats$Piano" "narrow" "[I", Cond.fieldLink RX0 15 "FifthBeats$Piano" "off" "[I"]
def wsX0_fastestBeats : List Cond := .code yX0_fastestBeats cX0_fastestBeats 3 (some .int) :: ((wsX0_fastestBeats_r1 ++ wsX0_fastestBeats_r2) ++ wsX00)
def wsX0_tellFifth_r1 : List Cond := [Cond.fieldLink RX0 9 "FifthBeats$Piano" "narrow" "[I", Cond.fieldLink RX0 24 "FifthBeats$Piano" "wolf" "I", Cond.methodLink RX0 31 yJ9_floorMod_7cf53, Cond.static yJ9_floorMod_7cf53, Cond.initialized RJ9, Cond.code yJ9_floorMod_7cf53 cJ9_floorMod_7cf53 3 (some .int), Cond.methodLink RX0 53 yX0_narrowness, Cond.instanceMethod yX0_narrowness, Cond.selects RX0 yX0_narrowness yX0_narrowness, Cond.initialized RX0, Cond.code yX0_narrowness cX0_narrowness 4 (some .int), Cond.fieldLink RX0 15 "FifthBeats$Piano" "off" "[I", Cond.methodLink RX0 68 yX0_fifthWidth, Cond.instanceMethod yX0_fifthWidth, Cond.selects RX0 yX0_fifthWidth yX0_fifthWidth, Cond.code yX0_fifthWidth cX0_fifthWidth 2 (some .int), Cond.methodLink RX0 74 yX0_fifthBeats, Cond.instanceMethod yX0_fifthBeats, Cond.selects RX0 yX0_fifthBeats yX0_fifthBeats, Cond.code yX0_fifthBeats cX0_fifthBeats 2 (some .int), Cond.methodLink RX0 59 Lib.Math.abs.name, Cond.static Lib.Math.abs.name, Cond.initialized "java/lang/Math", Cond.code Lib.Math.abs.name Lib.Math.abs.code 1 (some .int)]
def wsX0_tellFifth_r2 : List Cond := [Cond.methodLink RX0 56 yX0_swings, Cond.instanceMethod yX0_swings, Cond.selects RX0 yX0_swings yX0_swings, Cond.code yX0_swings cX0_swings 2 (some .int), Cond.methodLink RX0 65 yX0_keyboardNumber, Cond.instanceMethod yX0_keyboardNumber, Cond.selects RX0 yX0_keyboardNumber yX0_keyboardNumber, Cond.code yX0_keyboardNumber cX0_keyboardNumber 2 (some .int)]
def wsX0_tellFifth : List Cond := .code yX0_tellFifth cX0_tellFifth 4 (some .int) :: ((wsX0_tellFifth_r1 ++ wsX0_tellFifth_r2) ++ wsX00)
def wsX0_tellMajor_r1 : List Cond := [Cond.methodLink RX0 44 yX0_majorOff, Cond.instanceMethod yX0_majorOff, Cond.selects RX0 yX0_majorOff yX0_majorOff, Cond.initialized RX0, Cond.code yX0_majorOff cX0_majorOff 4 (some .int), Cond.methodLink RX0 53 yX0_narrowness, Cond.instanceMethod yX0_narrowness, Cond.selects RX0 yX0_narrowness yX0_narrowness, Cond.code yX0_narrowness cX0_narrowness 4 (some .int), Cond.fieldLink RX0 9 "FifthBeats$Piano" "narrow" "[I", Cond.fieldLink RX0 15 "FifthBeats$Piano" "off" "[I", Cond.methodLink RX0 31 yJ9_floorMod_7cf53, Cond.static yJ9_floorMod_7cf53, Cond.initialized RJ9, Cond.code yJ9_floorMod_7cf53 cJ9_floorMod_7cf53 3 (some .int), Cond.methodLink RX0 77 yX0_majorBeats, Cond.instanceMethod yX0_majorBeats, Cond.selects RX0 yX0_majorBeats yX0_majorBeats, Cond.code yX0_majorBeats cX0_majorBeats 2 (some .int), Cond.methodLink RX0 59 Lib.Math.abs.name, Cond.static Lib.Math.abs.name, Cond.initialized "java/lang/Math", Cond.code Lib.Math.abs.name Lib.Math.abs.code 1 (some .int), Cond.methodLink RX0 56 yX0_swings]
def wsX0_tellMajor_r2 : List Cond := [Cond.instanceMethod yX0_swings, Cond.selects RX0 yX0_swings yX0_swings, Cond.code yX0_swings cX0_swings 2 (some .int), Cond.methodLink RX0 65 yX0_keyboardNumber, Cond.instanceMethod yX0_keyboardNumber, Cond.selects RX0 yX0_keyboardNumber yX0_keyboardNumber, Cond.code yX0_keyboardNumber cX0_keyboardNumber 2 (some .int)]
def wsX0_tellMajor : List Cond := .code yX0_tellMajor cX0_tellMajor 3 (some .int) :: ((wsX0_tellMajor_r1 ++ wsX0_tellMajor_r2) ++ wsX00)
def wsX0_tellMinor : List Cond := .code yX0_tellMinor cX0_tellMinor 4 (some .int) :: ([.methodLink RX0 80 yX0_minorWidth, .instanceMethod yX0_minorWidth, .selects RX0 yX0_minorWidth yX0_minorWidth, .initialized RX0, .code yX0_minorWidth cX0_minorWidth 4 (some .int), .methodLink RX0 53 yX0_narrowness, .instanceMethod yX0_narrowness, .selects RX0 yX0_narrowness yX0_narrowness, .code yX0_narrowness cX0_narrowness 4 (some .int), .fieldLink RX0 9 "FifthBeats$Piano" "narrow" "[I", .fieldLink RX0 15 "FifthBeats$Piano" "off" "[I", .methodLink RX0 31 yJ9_floorMod_7cf53, .static yJ9_floorMod_7cf53, .initialized RJ9, .code yJ9_floorMod_7cf53 cJ9_floorMod_7cf53 3 (some .int)] ++ wsX00)
def wsX0_tellNote_r1 : List Cond := [Cond.fieldLink RX0 15 "FifthBeats$Piano" "off" "[I", Cond.fieldLink RX0 18 "FifthBeats$Piano" "drift" "[I", Cond.methodLink RX0 31 yJ9_floorMod_7cf53, Cond.static yJ9_floorMod_7cf53, Cond.initialized RJ9, Cond.code yJ9_floorMod_7cf53 cJ9_floorMod_7cf53 3 (some .int), Cond.methodLink RX0 65 yX0_keyboardNumber, Cond.instanceMethod yX0_keyboardNumber, Cond.selects RX0 yX0_keyboardNumber yX0_keyboardNumber, Cond.initialized RX0, Cond.code yX0_keyboardNumber cX0_keyboardNumber 2 (some .int), Cond.methodLink RX0 56 yX0_swings, Cond.instanceMethod yX0_swings, Cond.selects RX0 yX0_swings yX0_swings, Cond.code yX0_swings cX0_swings 2 (some .int), Cond.methodLink RX0 83 yX0_height, Cond.instanceMethod yX0_height, Cond.selects RX0 yX0_height yX0_height, Cond.code yX0_height cX0_height 4 (some .int), Cond.methodLink RX0 68 yX0_fifthWidth, Cond.instanceMethod yX0_fifthWidth, Cond.selects RX0 yX0_fifthWidth yX0_fifthWidth, Cond.code yX0_fifthWidth cX0_fifthWidth 2 (some .int), Cond.methodLink RX0 53 yX0_narrowness]
def wsX0_tellNote_r2 : List Cond := [Cond.instanceMethod yX0_narrowness, Cond.selects RX0 yX0_narrowness yX0_narrowness, Cond.code yX0_narrowness cX0_narrowness 4 (some .int), Cond.fieldLink RX0 9 "FifthBeats$Piano" "narrow" "[I"]
def wsX0_tellNote : List Cond := .code yX0_tellNote cX0_tellNote 4 (some .int) :: ((wsX0_tellNote_r1 ++ wsX0_tellNote_r2) ++ wsX00)
def wsX0_tellKey_r1 : List Cond := [Cond.fieldLink RX0 21 "FifthBeats$Piano" "often" "[I", Cond.methodLink RX0 31 yJ9_floorMod_7cf53, Cond.static yJ9_floorMod_7cf53, Cond.initialized RJ9, Cond.code yJ9_floorMod_7cf53 cJ9_floorMod_7cf53 3 (some .int), Cond.methodLink RX0 71 yX0_sourness, Cond.instanceMethod yX0_sourness, Cond.selects RX0 yX0_sourness yX0_sourness, Cond.initialized RX0, Cond.code yX0_sourness cX0_sourness 2 (some .int), Cond.methodLink RX0 59 Lib.Math.abs.name, Cond.static Lib.Math.abs.name, Cond.initialized "java/lang/Math", Cond.code Lib.Math.abs.name Lib.Math.abs.code 1 (some .int), Cond.methodLink RX0 44 yX0_majorOff, Cond.instanceMethod yX0_majorOff, Cond.selects RX0 yX0_majorOff yX0_majorOff, Cond.code yX0_majorOff cX0_majorOff 4 (some .int), Cond.methodLink RX0 53 yX0_narrowness, Cond.instanceMethod yX0_narrowness, Cond.selects RX0 yX0_narrowness yX0_narrowness, Cond.code yX0_narrowness cX0_narrowness 4 (some .int), Cond.fieldLink RX0 9 "FifthBeats$Piano" "narrow" "[I", Cond.fieldLink RX0 15 "FifthBeats$Piano" "off" "[I"]
def wsX0_tellKey_r2 : List Cond := [Cond.methodLink RX0 86 yX0_place, Cond.instanceMethod yX0_place, Cond.selects RX0 yX0_place yX0_place, Cond.code yX0_place cX0_place 6 (some .int)]
def wsX0_tellKey : List Cond := .code yX0_tellKey cX0_tellKey 4 (some .int) :: ((wsX0_tellKey_r1 ++ wsX0_tellKey_r2) ++ wsX00)
def wsX0_tellCount_r1 : List Cond := [Cond.fieldLink RX0 28 "FifthBeats$Piano" "day" "I", Cond.fieldLink RX0 24 "FifthBeats$Piano" "wolf" "I", Cond.methodLink RX0 89 yX0_cost, Cond.instanceMethod yX0_cost, Cond.selects RX0 yX0_cost yX0_cost, Cond.initialized RX0, Cond.code yX0_cost cX0_cost 3 (some .int), Cond.fieldLink RX0 21 "FifthBeats$Piano" "often" "[I", Cond.methodLink RX0 71 yX0_sourness, Cond.instanceMethod yX0_sourness, Cond.selects RX0 yX0_sourness yX0_sourness, Cond.code yX0_sourness cX0_sourness 2 (some .int), Cond.methodLink RX0 59 Lib.Math.abs.name, Cond.static Lib.Math.abs.name, Cond.initialized "java/lang/Math", Cond.code Lib.Math.abs.name Lib.Math.abs.code 1 (some .int), Cond.methodLink RX0 44 yX0_majorOff, Cond.instanceMethod yX0_majorOff, Cond.selects RX0 yX0_majorOff yX0_majorOff, Cond.code yX0_majorOff cX0_majorOff 4 (some .int), Cond.methodLink RX0 53 yX0_narrowness, Cond.instanceMethod yX0_narrowness, Cond.selects RX0 yX0_narrowness yX0_narrowness, Cond.code yX0_narrowness cX0_narrowness 4 (some .int)]
def wsX0_tellCount_r2 : List Cond := [Cond.fieldLink RX0 9 "FifthBeats$Piano" "narrow" "[I", Cond.fieldLink RX0 15 "FifthBeats$Piano" "off" "[I", Cond.methodLink RX0 31 yJ9_floorMod_7cf53, Cond.static yJ9_floorMod_7cf53, Cond.initialized RJ9, Cond.code yJ9_floorMod_7cf53 cJ9_floorMod_7cf53 3 (some .int), Cond.methodLink RX0 93 yX0_mostMajorOff, Cond.instanceMethod yX0_mostMajorOff, Cond.selects RX0 yX0_mostMajorOff yX0_mostMajorOff, Cond.code yX0_mostMajorOff cX0_mostMajorOff 3 (some .int), Cond.methodLink RX0 50 Lib.Math.max.name, Cond.static Lib.Math.max.name, Cond.code Lib.Math.max.name Lib.Math.max.code 2 (some .int), Cond.methodLink RX0 96 yX0_pureFifths, Cond.instanceMethod yX0_pureFifths, Cond.selects RX0 yX0_pureFifths yX0_pureFifths, Cond.code yX0_pureFifths cX0_pureFifths 3 (some .int), Cond.methodLink RX0 99 yX0_allOff, Cond.instanceMethod yX0_allOff, Cond.selects RX0 yX0_allOff yX0_allOff, Cond.code yX0_allOff cX0_allOff 3 (some .int), Cond.methodLink RX0 102 yX0_fastestBeats, Cond.instanceMethod yX0_fastestBeats, Cond.selects RX0 yX0_fastestBeats yX0_fastestBeats]
def wsX0_tellCount_r3 : List Cond := [Cond.code yX0_fastestBeats cX0_fastestBeats 3 (some .int), Cond.methodLink RX0 74 yX0_fifthBeats, Cond.instanceMethod yX0_fifthBeats, Cond.selects RX0 yX0_fifthBeats yX0_fifthBeats, Cond.code yX0_fifthBeats cX0_fifthBeats 2 (some .int), Cond.methodLink RX0 56 yX0_swings, Cond.instanceMethod yX0_swings, Cond.selects RX0 yX0_swings yX0_swings, Cond.code yX0_swings cX0_swings 2 (some .int), Cond.methodLink RX0 65 yX0_keyboardNumber, Cond.instanceMethod yX0_keyboardNumber, Cond.selects RX0 yX0_keyboardNumber yX0_keyboardNumber, Cond.code yX0_keyboardNumber cX0_keyboardNumber 2 (some .int)]
def wsX0_tellCount : List Cond := .code yX0_tellCount cX0_tellCount 2 (some .int) :: ((wsX0_tellCount_r1 ++ (wsX0_tellCount_r2 ++ wsX0_tellCount_r3)) ++ wsX00)
def wsX1_init : List Cond := .code yX1_init cX1_init 1 none :: ([.methodLink RX1 1 objectInit, .instanceMethod objectInit, .code objectInit ⟨#[0xb1]⟩ 1 none, .classLink RX1 7 RX0, .instantiable RX0 6, .initialized RX0, .fieldLink RX1 10 "FifthBeats" "piano" "LFifthBeats$Piano;", .fieldLink RX1 16 "FifthBeats" "trial" "LFifthBeats$Piano;", .methodLink RX1 9 yX0_init, .instanceMethod yX0_init, .code yX0_init cX0_init 2 none, .methodLink RX0 3 objectInit, .arrayClass .int, .fieldLink RX0 9 "FifthBeats$Piano" "narrow" "[I", .fieldLink RX0 15 "FifthBeats$Piano" "off" "[I", .fieldLink RX0 18 "FifthBeats$Piano" "drift" "[I", .fieldLink RX0 21 "FifthBeats$Piano" "often" "[I", .fieldLink RX0 24 "FifthBeats$Piano" "wolf" "I", .fieldLink RX0 28 "FifthBeats$Piano" "day" "I"] ++ wsX00 ++ wsX10)
def wsX1_checkRing : List Cond := .code yX1_checkRing cX1_checkRing 1 none :: ([.classLink RX1 144 "java/lang/IndexOutOfBoundsException", .initialized "java/lang/IndexOutOfBoundsException"] ++ (vx_atS RX1 148 "java/lang/IndexOutOfBoundsException" ["java/lang/RuntimeException", "java/lang/Exception"]).filter goodWord)
def wsX1_checkArgument : List Cond := .code yX1_checkArgument cX1_checkArgument 3 none :: ([.classLink RX1 151 "java/lang/IllegalArgumentException", .initialized "java/lang/IllegalArgumentException"] ++ (vx_atS RX1 155 "java/lang/IllegalArgumentException" ["java/lang/RuntimeException", "java/lang/Exception"]).filter goodWord)
def wsX1_checkNotWolf : List Cond := .code yX1_checkNotWolf cX1_checkNotWolf 2 none :: ([.classLink RX1 62 "java/lang/IllegalStateException", .initialized "java/lang/IllegalStateException", .fieldLink RX1 10 "FifthBeats" "piano" "LFifthBeats$Piano;", .fieldLink RX1 38 "FifthBeats$Piano" "wolf" "I"] ++ wsX10 ++ wsX00 ++ (vx_atS RX1 66 "java/lang/IllegalStateException" ["java/lang/RuntimeException", "java/lang/Exception"]).filter goodWord)
def wsX1_setFifth_r1 : List Cond := [Cond.fieldLink RX1 10 "FifthBeats" "piano" "LFifthBeats$Piano;", Cond.fieldLink RX1 30 "FifthBeats$Piano" "narrow" "[I", Cond.methodLink RX1 19 yX1_checkRing, Cond.static yX1_checkRing, Cond.initialized RX1, Cond.code yX1_checkRing cX1_checkRing 1 none, Cond.classLink RX1 144 "java/lang/IndexOutOfBoundsException", Cond.initialized "java/lang/IndexOutOfBoundsException", Cond.methodLink RX1 23 yX1_checkArgument, Cond.static yX1_checkArgument, Cond.code yX1_checkArgument cX1_checkArgument 3 none, Cond.classLink RX1 151 "java/lang/IllegalArgumentException", Cond.initialized "java/lang/IllegalArgumentException", Cond.methodLink RX1 27 yX1_checkNotWolf, Cond.instanceMethod yX1_checkNotWolf, Cond.selects RX1 yX1_checkNotWolf yX1_checkNotWolf, Cond.code yX1_checkNotWolf cX1_checkNotWolf 2 none, Cond.classLink RX1 62 "java/lang/IllegalStateException", Cond.initialized "java/lang/IllegalStateException", Cond.fieldLink RX1 38 "FifthBeats$Piano" "wolf" "I", Cond.methodLink RX1 34 yX0_plan, Cond.instanceMethod yX0_plan, Cond.selects RX0 yX0_plan yX0_plan, Cond.initialized RX0]
def wsX1_setFifth_r2 : List Cond := [Cond.code yX0_plan cX0_plan 3 none, Cond.fieldLink RX0 9 "FifthBeats$Piano" "narrow" "[I", Cond.methodLink RX0 31 yJ9_floorMod_7cf53, Cond.static yJ9_floorMod_7cf53, Cond.initialized RJ9, Cond.code yJ9_floorMod_7cf53 cJ9_floorMod_7cf53 3 (some .int), Cond.methodLink RX0 37 yX0_giveWolfTheRest, Cond.instanceMethod yX0_giveWolfTheRest, Cond.selects RX0 yX0_giveWolfTheRest yX0_giveWolfTheRest, Cond.code yX0_giveWolfTheRest cX0_giveWolfTheRest 3 none, Cond.fieldLink RX0 24 "FifthBeats$Piano" "wolf" "I"]
def wsX1_setFifth : List Cond := .code yX1_setFifth cX1_setFifth 4 (some .int) :: ((wsX1_setFifth_r1 ++ wsX1_setFifth_r2) ++ wsX10 ++ wsX00 ++ (vx_atS RX1 148 "java/lang/IndexOutOfBoundsException" ["java/lang/RuntimeException", "java/lang/Exception"]).filter goodWord ++ (vx_atS RX1 155 "java/lang/IllegalArgumentException" ["java/lang/RuntimeException", "java/lang/Exception"]).filter goodWord ++ (vx_atS RX1 66 "java/lang/IllegalStateException" ["java/lang/RuntimeException", "java/lang/Exception"]).filter goodWord)
def wsX1_shift : List Cond := .code yX1_shift cX1_shift 3 (some .int) :: ([.fieldLink RX1 10 "FifthBeats" "piano" "LFifthBeats$Piano;", .fieldLink RX1 38 "FifthBeats$Piano" "wolf" "I", .methodLink RX1 19 yX1_checkRing, .static yX1_checkRing, .initialized RX1, .code yX1_checkRing cX1_checkRing 1 none, .classLink RX1 144 "java/lang/IndexOutOfBoundsException", .initialized "java/lang/IndexOutOfBoundsException", .methodLink RX1 42 yX0_moveWolf, .instanceMethod yX0_moveWolf, .selects RX0 yX0_moveWolf yX0_moveWolf, .initialized RX0, .code yX0_moveWolf cX0_moveWolf 5 none, .fieldLink RX0 24 "FifthBeats$Piano" "wolf" "I", .fieldLink RX0 9 "FifthBeats$Piano" "narrow" "[I", .methodLink RX0 31 yJ9_floorMod_7cf53, .static yJ9_floorMod_7cf53, .initialized RJ9, .code yJ9_floorMod_7cf53 cJ9_floorMod_7cf53 3 (some .int)] ++ wsX10 ++ wsX00 ++ (vx_atS RX1 148 "java/lang/IndexOutOfBoundsException" ["java/lang/RuntimeException", "java/lang/Exception"]).filter goodWord)
def wsX1_spread_r1 : List Cond := [Cond.fieldLink RX1 10 "FifthBeats" "piano" "LFifthBeats$Piano;", Cond.methodLink RX1 23 yX1_checkArgument, Cond.static yX1_checkArgument, Cond.initialized RX1, Cond.code yX1_checkArgument cX1_checkArgument 3 none, Cond.classLink RX1 151 "java/lang/IllegalArgumentException", Cond.initialized "java/lang/IllegalArgumentException", Cond.methodLink RX1 45 yX0_wolfNarrow, Cond.instanceMethod yX0_wolfNarrow, Cond.selects RX0 yX0_wolfNarrow yX0_wolfNarrow, Cond.initialized RX0, Cond.code yX0_wolfNarrow cX0_wolfNarrow 1 (some .int), Cond.fieldLink RX0 9 "FifthBeats$Piano" "narrow" "[I", Cond.fieldLink RX0 24 "FifthBeats$Piano" "wolf" "I", Cond.methodLink RX0 31 yJ9_floorMod_7cf53, Cond.static yJ9_floorMod_7cf53, Cond.initialized RJ9, Cond.code yJ9_floorMod_7cf53 cJ9_floorMod_7cf53 3 (some .int), Cond.methodLink RX1 49 yX0_spreadComma, Cond.instanceMethod yX0_spreadComma, Cond.selects RX0 yX0_spreadComma yX0_spreadComma, Cond.code yX0_spreadComma cX0_spreadComma 6 none, Cond.methodLink RX0 37 yX0_giveWolfTheRest, Cond.instanceMethod yX0_giveWolfTheRest]
def wsX1_spread_r2 : List Cond := [Cond.selects RX0 yX0_giveWolfTheRest yX0_giveWolfTheRest, Cond.code yX0_giveWolfTheRest cX0_giveWolfTheRest 3 none]
def wsX1_spread : List Cond := .code yX1_spread cX1_spread 3 (some .int) :: ((wsX1_spread_r1 ++ wsX1_spread_r2) ++ wsX10 ++ wsX00 ++ (vx_atS RX1 155 "java/lang/IllegalArgumentException" ["java/lang/RuntimeException", "java/lang/Exception"]).filter goodWord)
def wsX1_setOften : List Cond := .code yX1_setOften cX1_setOften 4 (some .int) :: ([.fieldLink RX1 10 "FifthBeats" "piano" "LFifthBeats$Piano;", .fieldLink RX1 52 "FifthBeats$Piano" "often" "[I", .methodLink RX1 19 yX1_checkRing, .static yX1_checkRing, .initialized RX1, .code yX1_checkRing cX1_checkRing 1 none, .classLink RX1 144 "java/lang/IndexOutOfBoundsException", .initialized "java/lang/IndexOutOfBoundsException", .methodLink RX1 23 yX1_checkArgument, .static yX1_checkArgument, .code yX1_checkArgument cX1_checkArgument 3 none, .classLink RX1 151 "java/lang/IllegalArgumentException", .initialized "java/lang/IllegalArgumentException"] ++ wsX10 ++ wsX00 ++ (vx_atS RX1 148 "java/lang/IndexOutOfBoundsException" ["java/lang/RuntimeException", "java/lang/Exception"]).filter goodWord ++ (vx_atS RX1 155 "java/lang/IllegalArgumentException" ["java/lang/RuntimeException", "java/lang/Exception"]).filter goodWord)
def wsX1_setDrift : List Cond := .code yX1_setDrift cX1_setDrift 4 (some .int) :: ([.fieldLink RX1 10 "FifthBeats" "piano" "LFifthBeats$Piano;", .fieldLink RX1 55 "FifthBeats$Piano" "drift" "[I", .methodLink RX1 19 yX1_checkRing, .static yX1_checkRing, .initialized RX1, .code yX1_checkRing cX1_checkRing 1 none, .classLink RX1 144 "java/lang/IndexOutOfBoundsException", .initialized "java/lang/IndexOutOfBoundsException", .methodLink RX1 23 yX1_checkArgument, .static yX1_checkArgument, .code yX1_checkArgument cX1_checkArgument 3 none, .classLink RX1 151 "java/lang/IllegalArgumentException", .initialized "java/lang/IllegalArgumentException"] ++ wsX10 ++ wsX00 ++ (vx_atS RX1 148 "java/lang/IndexOutOfBoundsException" ["java/lang/RuntimeException", "java/lang/Exception"]).filter goodWord ++ (vx_atS RX1 155 "java/lang/IllegalArgumentException" ["java/lang/RuntimeException", "java/lang/Exception"]).filter goodWord)
def wsX1_tune : List Cond := .code yX1_tune cX1_tune 2 (some .int) :: ([.classLink RX1 62 "java/lang/IllegalStateException", .initialized "java/lang/IllegalStateException", .fieldLink RX1 10 "FifthBeats" "piano" "LFifthBeats$Piano;", .methodLink RX1 19 yX1_checkRing, .static yX1_checkRing, .initialized RX1, .code yX1_checkRing cX1_checkRing 1 none, .classLink RX1 144 "java/lang/IndexOutOfBoundsException", .initialized "java/lang/IndexOutOfBoundsException", .methodLink RX1 58 yX0_canTune, .instanceMethod yX0_canTune, .selects RX0 yX0_canTune yX0_canTune, .initialized RX0, .code yX0_canTune cX0_canTune 2 (some .boolean), .fieldLink RX0 24 "FifthBeats$Piano" "wolf" "I", .methodLink RX0 31 yJ9_floorMod_7cf53, .static yJ9_floorMod_7cf53, .initialized RJ9, .code yJ9_floorMod_7cf53 cJ9_floorMod_7cf53 3 (some .int), .methodLink RX1 69 yX0_tuneOne, .instanceMethod yX0_tuneOne, .selects RX0 yX0_tuneOne yX0_tuneOne, .code yX0_tuneOne cX0_tuneOne 4 (some .int), .fieldLink RX0 15 "FifthBeats$Piano" "off" "[I"] ++ wsX10 ++ wsX00 ++ (vx_atS RX1 66 "java/lang/IllegalStateException" ["java/lang/RuntimeException", "java/lang/Exception"]).filter goodWord ++ (vx_atS RX1 148 "java/lang/IndexOutOfBoundsException" ["java/lang/RuntimeException", "java/lang/Exception"]).filter goodWord)
def wsX1_tuneAll : List Cond := .code yX1_tuneAll cX1_tuneAll 1 (some .int) :: ([.fieldLink RX1 10 "FifthBeats" "piano" "LFifthBeats$Piano;", .methodLink RX1 73 yX0_tuneRound, .instanceMethod yX0_tuneRound, .selects RX0 yX0_tuneRound yX0_tuneRound, .initialized RX0, .code yX0_tuneRound cX0_tuneRound 3 (some .int), .fieldLink RX0 24 "FifthBeats$Piano" "wolf" "I", .methodLink RX0 40 yX0_tuneOne, .instanceMethod yX0_tuneOne, .selects RX0 yX0_tuneOne yX0_tuneOne, .code yX0_tuneOne cX0_tuneOne 4 (some .int), .fieldLink RX0 15 "FifthBeats$Piano" "off" "[I", .methodLink RX0 31 yJ9_floorMod_7cf53, .static yJ9_floorMod_7cf53, .initialized RJ9, .code yJ9_floorMod_7cf53 cJ9_floorMod_7cf53 3 (some .int)] ++ wsX10 ++ wsX00)
def wsX1_sweeten_r1 : List Cond := [Cond.classLink RX1 62 "java/lang/IllegalStateException", Cond.initialized "java/lang/IllegalStateException", Cond.fieldLink RX1 10 "FifthBeats" "piano" "LFifthBeats$Piano;", Cond.fieldLink RX1 81 "FifthBeats$Piano" "off" "[I", Cond.methodLink RX1 19 yX1_checkRing, Cond.static yX1_checkRing, Cond.initialized RX1, Cond.code yX1_checkRing cX1_checkRing 1 none, Cond.classLink RX1 144 "java/lang/IndexOutOfBoundsException", Cond.initialized "java/lang/IndexOutOfBoundsException", Cond.methodLink RX1 76 yX0_offForPureMajor, Cond.instanceMethod yX0_offForPureMajor, Cond.selects RX0 yX0_offForPureMajor yX0_offForPureMajor, Cond.initialized RX0, Cond.code yX0_offForPureMajor cX0_offForPureMajor 2 (some .int), Cond.fieldLink RX0 15 "FifthBeats$Piano" "off" "[I", Cond.methodLink RX0 31 yJ9_floorMod_7cf53, Cond.static yJ9_floorMod_7cf53, Cond.initialized RJ9, Cond.code yJ9_floorMod_7cf53 cJ9_floorMod_7cf53 3 (some .int), Cond.methodLink RX0 44 yX0_majorOff, Cond.instanceMethod yX0_majorOff, Cond.selects RX0 yX0_majorOff yX0_majorOff, Cond.code yX0_majorOff cX0_majorOff 4 (some .int)]
def wsX1_sweeten_r2 : List Cond := [Cond.methodLink RX0 53 yX0_narrowness, Cond.instanceMethod yX0_narrowness, Cond.selects RX0 yX0_narrowness yX0_narrowness, Cond.code yX0_narrowness cX0_narrowness 4 (some .int), Cond.fieldLink RX0 9 "FifthBeats$Piano" "narrow" "[I", Cond.methodLink RX1 84 yJ9_floorMod_7cf53]
def wsX1_sweeten : List Cond := .code yX1_sweeten cX1_sweeten 3 (some .int) :: ((wsX1_sweeten_r1 ++ wsX1_sweeten_r2) ++ wsX10 ++ wsX00 ++ (vx_atS RX1 66 "java/lang/IllegalStateException" ["java/lang/RuntimeException", "java/lang/Exception"]).filter goodWord ++ (vx_atS RX1 148 "java/lang/IndexOutOfBoundsException" ["java/lang/RuntimeException", "java/lang/Exception"]).filter goodWord)
def wsX1_pass_r1 : List Cond := [Cond.fieldLink RX1 10 "FifthBeats" "piano" "LFifthBeats$Piano;", Cond.methodLink RX1 23 yX1_checkArgument, Cond.static yX1_checkArgument, Cond.initialized RX1, Cond.code yX1_checkArgument cX1_checkArgument 3 none, Cond.classLink RX1 151 "java/lang/IllegalArgumentException", Cond.initialized "java/lang/IllegalArgumentException", Cond.methodLink RX1 90 yX0_letPass, Cond.instanceMethod yX0_letPass, Cond.selects RX0 yX0_letPass yX0_letPass, Cond.initialized RX0, Cond.code yX0_letPass cX0_letPass 4 none, Cond.fieldLink RX0 15 "FifthBeats$Piano" "off" "[I", Cond.fieldLink RX0 18 "FifthBeats$Piano" "drift" "[I", Cond.methodLink RX0 47 Lib.Math.min.name, Cond.static Lib.Math.min.name, Cond.initialized "java/lang/Math", Cond.code Lib.Math.min.name Lib.Math.min.code 2 (some .int), Cond.methodLink RX0 50 Lib.Math.max.name, Cond.static Lib.Math.max.name, Cond.code Lib.Math.max.name Lib.Math.max.code 2 (some .int), Cond.fieldLink RX0 28 "FifthBeats$Piano" "day" "I", Cond.methodLink RX1 93 yX0_mostOff, Cond.instanceMethod yX0_mostOff]
def wsX1_pass_r2 : List Cond := [Cond.selects RX0 yX0_mostOff yX0_mostOff, Cond.code yX0_mostOff cX0_mostOff 3 (some .int), Cond.methodLink RX0 59 Lib.Math.abs.name, Cond.static Lib.Math.abs.name, Cond.code Lib.Math.abs.name Lib.Math.abs.code 1 (some .int)]
def wsX1_pass : List Cond := .code yX1_pass cX1_pass 2 (some .int) :: ((wsX1_pass_r1 ++ wsX1_pass_r2) ++ wsX10 ++ wsX00 ++ (vx_atS RX1 155 "java/lang/IllegalArgumentException" ["java/lang/RuntimeException", "java/lang/Exception"]).filter goodWord)
def wsX1_checkWhat : List Cond := .code yX1_checkWhat cX1_checkWhat 3 none :: ([.classLink RX1 144 "java/lang/IndexOutOfBoundsException", .initialized "java/lang/IndexOutOfBoundsException"] ++ (vx_atS RX1 148 "java/lang/IndexOutOfBoundsException" ["java/lang/RuntimeException", "java/lang/Exception"]).filter goodWord)
def wsX1_fifth_r1 : List Cond := [Cond.fieldLink RX1 10 "FifthBeats" "piano" "LFifthBeats$Piano;", Cond.methodLink RX1 19 yX1_checkRing, Cond.static yX1_checkRing, Cond.initialized RX1, Cond.code yX1_checkRing cX1_checkRing 1 none, Cond.classLink RX1 144 "java/lang/IndexOutOfBoundsException", Cond.initialized "java/lang/IndexOutOfBoundsException", Cond.methodLink RX1 96 yX1_checkWhat, Cond.static yX1_checkWhat, Cond.code yX1_checkWhat cX1_checkWhat 3 none, Cond.methodLink RX1 99 yX0_tellFifth, Cond.instanceMethod yX0_tellFifth, Cond.selects RX0 yX0_tellFifth yX0_tellFifth, Cond.initialized RX0, Cond.code yX0_tellFifth cX0_tellFifth 4 (some .int), Cond.fieldLink RX0 9 "FifthBeats$Piano" "narrow" "[I", Cond.fieldLink RX0 24 "FifthBeats$Piano" "wolf" "I", Cond.methodLink RX0 31 yJ9_floorMod_7cf53, Cond.static yJ9_floorMod_7cf53, Cond.initialized RJ9, Cond.code yJ9_floorMod_7cf53 cJ9_floorMod_7cf53 3 (some .int), Cond.methodLink RX0 53 yX0_narrowness, Cond.instanceMethod yX0_narrowness, Cond.selects RX0 yX0_narrowness yX0_narrowness]
def wsX1_fifth_r2 : List Cond := [Cond.code yX0_narrowness cX0_narrowness 4 (some .int), Cond.fieldLink RX0 15 "FifthBeats$Piano" "off" "[I", Cond.methodLink RX0 68 yX0_fifthWidth, Cond.instanceMethod yX0_fifthWidth, Cond.selects RX0 yX0_fifthWidth yX0_fifthWidth, Cond.code yX0_fifthWidth cX0_fifthWidth 2 (some .int), Cond.methodLink RX0 74 yX0_fifthBeats, Cond.instanceMethod yX0_fifthBeats, Cond.selects RX0 yX0_fifthBeats yX0_fifthBeats, Cond.code yX0_fifthBeats cX0_fifthBeats 2 (some .int), Cond.methodLink RX0 59 Lib.Math.abs.name, Cond.static Lib.Math.abs.name, Cond.initialized "java/lang/Math", Cond.code Lib.Math.abs.name Lib.Math.abs.code 1 (some .int), Cond.methodLink RX0 56 yX0_swings, Cond.instanceMethod yX0_swings, Cond.selects RX0 yX0_swings yX0_swings, Cond.code yX0_swings cX0_swings 2 (some .int), Cond.methodLink RX0 65 yX0_keyboardNumber, Cond.instanceMethod yX0_keyboardNumber, Cond.selects RX0 yX0_keyboardNumber yX0_keyboardNumber, Cond.code yX0_keyboardNumber cX0_keyboardNumber 2 (some .int)]
def wsX1_fifth : List Cond := .code yX1_fifth cX1_fifth 3 (some .int) :: ((wsX1_fifth_r1 ++ wsX1_fifth_r2) ++ wsX10 ++ wsX00 ++ (vx_atS RX1 148 "java/lang/IndexOutOfBoundsException" ["java/lang/RuntimeException", "java/lang/Exception"]).filter goodWord)
def wsX1_major_r1 : List Cond := [Cond.fieldLink RX1 10 "FifthBeats" "piano" "LFifthBeats$Piano;", Cond.methodLink RX1 19 yX1_checkRing, Cond.static yX1_checkRing, Cond.initialized RX1, Cond.code yX1_checkRing cX1_checkRing 1 none, Cond.classLink RX1 144 "java/lang/IndexOutOfBoundsException", Cond.initialized "java/lang/IndexOutOfBoundsException", Cond.methodLink RX1 96 yX1_checkWhat, Cond.static yX1_checkWhat, Cond.code yX1_checkWhat cX1_checkWhat 3 none, Cond.methodLink RX1 102 yX0_tellMajor, Cond.instanceMethod yX0_tellMajor, Cond.selects RX0 yX0_tellMajor yX0_tellMajor, Cond.initialized RX0, Cond.code yX0_tellMajor cX0_tellMajor 3 (some .int), Cond.methodLink RX0 44 yX0_majorOff, Cond.instanceMethod yX0_majorOff, Cond.selects RX0 yX0_majorOff yX0_majorOff, Cond.code yX0_majorOff cX0_majorOff 4 (some .int), Cond.methodLink RX0 53 yX0_narrowness, Cond.instanceMethod yX0_narrowness, Cond.selects RX0 yX0_narrowness yX0_narrowness, Cond.code yX0_narrowness cX0_narrowness 4 (some .int), Cond.fieldLink RX0 9 "FifthBeats$Piano" "narrow" "[I"]
def wsX1_major_r2 : List Cond := [Cond.fieldLink RX0 15 "FifthBeats$Piano" "off" "[I", Cond.methodLink RX0 31 yJ9_floorMod_7cf53, Cond.static yJ9_floorMod_7cf53, Cond.initialized RJ9, Cond.code yJ9_floorMod_7cf53 cJ9_floorMod_7cf53 3 (some .int), Cond.methodLink RX0 77 yX0_majorBeats, Cond.instanceMethod yX0_majorBeats, Cond.selects RX0 yX0_majorBeats yX0_majorBeats, Cond.code yX0_majorBeats cX0_majorBeats 2 (some .int), Cond.methodLink RX0 59 Lib.Math.abs.name, Cond.static Lib.Math.abs.name, Cond.initialized "java/lang/Math", Cond.code Lib.Math.abs.name Lib.Math.abs.code 1 (some .int), Cond.methodLink RX0 56 yX0_swings, Cond.instanceMethod yX0_swings, Cond.selects RX0 yX0_swings yX0_swings, Cond.code yX0_swings cX0_swings 2 (some .int), Cond.methodLink RX0 65 yX0_keyboardNumber, Cond.instanceMethod yX0_keyboardNumber, Cond.selects RX0 yX0_keyboardNumber yX0_keyboardNumber, Cond.code yX0_keyboardNumber cX0_keyboardNumber 2 (some .int)]
def wsX1_major : List Cond := .code yX1_major cX1_major 3 (some .int) :: ((wsX1_major_r1 ++ wsX1_major_r2) ++ wsX10 ++ wsX00 ++ (vx_atS RX1 148 "java/lang/IndexOutOfBoundsException" ["java/lang/RuntimeException", "java/lang/Exception"]).filter goodWord)
def wsX1_minor_r1 : List Cond := [Cond.fieldLink RX1 10 "FifthBeats" "piano" "LFifthBeats$Piano;", Cond.methodLink RX1 19 yX1_checkRing, Cond.static yX1_checkRing, Cond.initialized RX1, Cond.code yX1_checkRing cX1_checkRing 1 none, Cond.classLink RX1 144 "java/lang/IndexOutOfBoundsException", Cond.initialized "java/lang/IndexOutOfBoundsException", Cond.methodLink RX1 96 yX1_checkWhat, Cond.static yX1_checkWhat, Cond.code yX1_checkWhat cX1_checkWhat 3 none, Cond.methodLink RX1 105 yX0_tellMinor, Cond.instanceMethod yX0_tellMinor, Cond.selects RX0 yX0_tellMinor yX0_tellMinor, Cond.initialized RX0, Cond.code yX0_tellMinor cX0_tellMinor 4 (some .int), Cond.methodLink RX0 80 yX0_minorWidth, Cond.instanceMethod yX0_minorWidth, Cond.selects RX0 yX0_minorWidth yX0_minorWidth, Cond.code yX0_minorWidth cX0_minorWidth 4 (some .int), Cond.methodLink RX0 53 yX0_narrowness, Cond.instanceMethod yX0_narrowness, Cond.selects RX0 yX0_narrowness yX0_narrowness, Cond.code yX0_narrowness cX0_narrowness 4 (some .int), Cond.fieldLink RX0 9 "FifthBeats$Piano" "narrow" "[I"]
def wsX1_minor_r2 : List Cond := [Cond.fieldLink RX0 15 "FifthBeats$Piano" "off" "[I", Cond.methodLink RX0 31 yJ9_floorMod_7cf53, Cond.static yJ9_floorMod_7cf53, Cond.initialized RJ9, Cond.code yJ9_floorMod_7cf53 cJ9_floorMod_7cf53 3 (some .int)]
def wsX1_minor : List Cond := .code yX1_minor cX1_minor 3 (some .int) :: ((wsX1_minor_r1 ++ wsX1_minor_r2) ++ wsX10 ++ wsX00 ++ (vx_atS RX1 148 "java/lang/IndexOutOfBoundsException" ["java/lang/RuntimeException", "java/lang/Exception"]).filter goodWord)
def wsX1_note_r1 : List Cond := [Cond.fieldLink RX1 10 "FifthBeats" "piano" "LFifthBeats$Piano;", Cond.methodLink RX1 19 yX1_checkRing, Cond.static yX1_checkRing, Cond.initialized RX1, Cond.code yX1_checkRing cX1_checkRing 1 none, Cond.classLink RX1 144 "java/lang/IndexOutOfBoundsException", Cond.initialized "java/lang/IndexOutOfBoundsException", Cond.methodLink RX1 96 yX1_checkWhat, Cond.static yX1_checkWhat, Cond.code yX1_checkWhat cX1_checkWhat 3 none, Cond.methodLink RX1 108 yX0_tellNote, Cond.instanceMethod yX0_tellNote, Cond.selects RX0 yX0_tellNote yX0_tellNote, Cond.initialized RX0, Cond.code yX0_tellNote cX0_tellNote 4 (some .int), Cond.fieldLink RX0 15 "FifthBeats$Piano" "off" "[I", Cond.fieldLink RX0 18 "FifthBeats$Piano" "drift" "[I", Cond.methodLink RX0 31 yJ9_floorMod_7cf53, Cond.static yJ9_floorMod_7cf53, Cond.initialized RJ9, Cond.code yJ9_floorMod_7cf53 cJ9_floorMod_7cf53 3 (some .int), Cond.methodLink RX0 65 yX0_keyboardNumber, Cond.instanceMethod yX0_keyboardNumber, Cond.selects RX0 yX0_keyboardNumber yX0_keyboardNumber]
def wsX1_note_r2 : List Cond := [Cond.code yX0_keyboardNumber cX0_keyboardNumber 2 (some .int), Cond.methodLink RX0 56 yX0_swings, Cond.instanceMethod yX0_swings, Cond.selects RX0 yX0_swings yX0_swings, Cond.code yX0_swings cX0_swings 2 (some .int), Cond.methodLink RX0 83 yX0_height, Cond.instanceMethod yX0_height, Cond.selects RX0 yX0_height yX0_height, Cond.code yX0_height cX0_height 4 (some .int), Cond.methodLink RX0 68 yX0_fifthWidth, Cond.instanceMethod yX0_fifthWidth, Cond.selects RX0 yX0_fifthWidth yX0_fifthWidth, Cond.code yX0_fifthWidth cX0_fifthWidth 2 (some .int), Cond.methodLink RX0 53 yX0_narrowness, Cond.instanceMethod yX0_narrowness, Cond.selects RX0 yX0_narrowness yX0_narrowness, Cond.code yX0_narrowness cX0_narrowness 4 (some .int), Cond.fieldLink RX0 9 "FifthBeats$Piano" "narrow" "[I"]
def wsX1_note : List Cond := .code yX1_note cX1_note 3 (some .int) :: ((wsX1_note_r1 ++ wsX1_note_r2) ++ wsX10 ++ wsX00 ++ (vx_atS RX1 148 "java/lang/IndexOutOfBoundsException" ["java/lang/RuntimeException", "java/lang/Exception"]).filter goodWord)
def wsX1_key_r1 : List Cond := [Cond.fieldLink RX1 10 "FifthBeats" "piano" "LFifthBeats$Piano;", Cond.methodLink RX1 19 yX1_checkRing, Cond.static yX1_checkRing, Cond.initialized RX1, Cond.code yX1_checkRing cX1_checkRing 1 none, Cond.classLink RX1 144 "java/lang/IndexOutOfBoundsException", Cond.initialized "java/lang/IndexOutOfBoundsException", Cond.methodLink RX1 96 yX1_checkWhat, Cond.static yX1_checkWhat, Cond.code yX1_checkWhat cX1_checkWhat 3 none, Cond.methodLink RX1 111 yX0_tellKey, Cond.instanceMethod yX0_tellKey, Cond.selects RX0 yX0_tellKey yX0_tellKey, Cond.initialized RX0, Cond.code yX0_tellKey cX0_tellKey 4 (some .int), Cond.fieldLink RX0 21 "FifthBeats$Piano" "often" "[I", Cond.methodLink RX0 31 yJ9_floorMod_7cf53, Cond.static yJ9_floorMod_7cf53, Cond.initialized RJ9, Cond.code yJ9_floorMod_7cf53 cJ9_floorMod_7cf53 3 (some .int), Cond.methodLink RX0 71 yX0_sourness, Cond.instanceMethod yX0_sourness, Cond.selects RX0 yX0_sourness yX0_sourness, Cond.code yX0_sourness cX0_sourness 2 (some .int)]
def wsX1_key_r2 : List Cond := [Cond.methodLink RX0 59 Lib.Math.abs.name, Cond.static Lib.Math.abs.name, Cond.initialized "java/lang/Math", Cond.code Lib.Math.abs.name Lib.Math.abs.code 1 (some .int), Cond.methodLink RX0 44 yX0_majorOff, Cond.instanceMethod yX0_majorOff, Cond.selects RX0 yX0_majorOff yX0_majorOff, Cond.code yX0_majorOff cX0_majorOff 4 (some .int), Cond.methodLink RX0 53 yX0_narrowness, Cond.instanceMethod yX0_narrowness, Cond.selects RX0 yX0_narrowness yX0_narrowness, Cond.code yX0_narrowness cX0_narrowness 4 (some .int), Cond.fieldLink RX0 9 "FifthBeats$Piano" "narrow" "[I", Cond.fieldLink RX0 15 "FifthBeats$Piano" "off" "[I", Cond.methodLink RX0 86 yX0_place, Cond.instanceMethod yX0_place, Cond.selects RX0 yX0_place yX0_place, Cond.code yX0_place cX0_place 6 (some .int)]
def wsX1_key : List Cond := .code yX1_key cX1_key 3 (some .int) :: ((wsX1_key_r1 ++ wsX1_key_r2) ++ wsX10 ++ wsX00 ++ (vx_atS RX1 148 "java/lang/IndexOutOfBoundsException" ["java/lang/RuntimeException", "java/lang/Exception"]).filter goodWord)
def wsX1_count_r1 : List Cond := [Cond.fieldLink RX1 10 "FifthBeats" "piano" "LFifthBeats$Piano;", Cond.methodLink RX1 96 yX1_checkWhat, Cond.static yX1_checkWhat, Cond.initialized RX1, Cond.code yX1_checkWhat cX1_checkWhat 3 none, Cond.classLink RX1 144 "java/lang/IndexOutOfBoundsException", Cond.initialized "java/lang/IndexOutOfBoundsException", Cond.methodLink RX1 114 yX0_tellCount, Cond.instanceMethod yX0_tellCount, Cond.selects RX0 yX0_tellCount yX0_tellCount, Cond.initialized RX0, Cond.code yX0_tellCount cX0_tellCount 2 (some .int), Cond.fieldLink RX0 28 "FifthBeats$Piano" "day" "I", Cond.fieldLink RX0 24 "FifthBeats$Piano" "wolf" "I", Cond.methodLink RX0 89 yX0_cost, Cond.instanceMethod yX0_cost, Cond.selects RX0 yX0_cost yX0_cost, Cond.code yX0_cost cX0_cost 3 (some .int), Cond.fieldLink RX0 21 "FifthBeats$Piano" "often" "[I", Cond.methodLink RX0 71 yX0_sourness, Cond.instanceMethod yX0_sourness, Cond.selects RX0 yX0_sourness yX0_sourness, Cond.code yX0_sourness cX0_sourness 2 (some .int), Cond.methodLink RX0 59 Lib.Math.abs.name]
def wsX1_count_r2 : List Cond := [Cond.static Lib.Math.abs.name, Cond.initialized "java/lang/Math", Cond.code Lib.Math.abs.name Lib.Math.abs.code 1 (some .int), Cond.methodLink RX0 44 yX0_majorOff, Cond.instanceMethod yX0_majorOff, Cond.selects RX0 yX0_majorOff yX0_majorOff, Cond.code yX0_majorOff cX0_majorOff 4 (some .int), Cond.methodLink RX0 53 yX0_narrowness, Cond.instanceMethod yX0_narrowness, Cond.selects RX0 yX0_narrowness yX0_narrowness, Cond.code yX0_narrowness cX0_narrowness 4 (some .int), Cond.fieldLink RX0 9 "FifthBeats$Piano" "narrow" "[I", Cond.fieldLink RX0 15 "FifthBeats$Piano" "off" "[I", Cond.methodLink RX0 31 yJ9_floorMod_7cf53, Cond.static yJ9_floorMod_7cf53, Cond.initialized RJ9, Cond.code yJ9_floorMod_7cf53 cJ9_floorMod_7cf53 3 (some .int), Cond.methodLink RX0 93 yX0_mostMajorOff, Cond.instanceMethod yX0_mostMajorOff, Cond.selects RX0 yX0_mostMajorOff yX0_mostMajorOff, Cond.code yX0_mostMajorOff cX0_mostMajorOff 3 (some .int), Cond.methodLink RX0 50 Lib.Math.max.name, Cond.static Lib.Math.max.name, Cond.code Lib.Math.max.name Lib.Math.max.code 2 (some .int)]
def wsX1_count_r3 : List Cond := [Cond.methodLink RX0 96 yX0_pureFifths, Cond.instanceMethod yX0_pureFifths, Cond.selects RX0 yX0_pureFifths yX0_pureFifths, Cond.code yX0_pureFifths cX0_pureFifths 3 (some .int), Cond.methodLink RX0 99 yX0_allOff, Cond.instanceMethod yX0_allOff, Cond.selects RX0 yX0_allOff yX0_allOff, Cond.code yX0_allOff cX0_allOff 3 (some .int), Cond.methodLink RX0 102 yX0_fastestBeats, Cond.instanceMethod yX0_fastestBeats, Cond.selects RX0 yX0_fastestBeats yX0_fastestBeats, Cond.code yX0_fastestBeats cX0_fastestBeats 3 (some .int), Cond.methodLink RX0 74 yX0_fifthBeats, Cond.instanceMethod yX0_fifthBeats, Cond.selects RX0 yX0_fifthBeats yX0_fifthBeats, Cond.code yX0_fifthBeats cX0_fifthBeats 2 (some .int), Cond.methodLink RX0 56 yX0_swings, Cond.instanceMethod yX0_swings, Cond.selects RX0 yX0_swings yX0_swings, Cond.code yX0_swings cX0_swings 2 (some .int), Cond.methodLink RX0 65 yX0_keyboardNumber, Cond.instanceMethod yX0_keyboardNumber, Cond.selects RX0 yX0_keyboardNumber yX0_keyboardNumber, Cond.code yX0_keyboardNumber cX0_keyboardNumber 2 (some .int)]
def wsX1_count : List Cond := .code yX1_count cX1_count 2 (some .int) :: ((wsX1_count_r1 ++ (wsX1_count_r2 ++ wsX1_count_r3)) ++ wsX10 ++ wsX00 ++ (vx_atS RX1 148 "java/lang/IndexOutOfBoundsException" ["java/lang/RuntimeException", "java/lang/Exception"]).filter goodWord)
def wsX1_startTrial : List Cond := .code yX1_startTrial cX1_startTrial 2 none :: ([.fieldLink RX1 16 "FifthBeats" "trial" "LFifthBeats$Piano;", .fieldLink RX1 30 "FifthBeats$Piano" "narrow" "[I", .fieldLink RX1 10 "FifthBeats" "piano" "LFifthBeats$Piano;", .fieldLink RX1 81 "FifthBeats$Piano" "off" "[I", .fieldLink RX1 55 "FifthBeats$Piano" "drift" "[I", .fieldLink RX1 52 "FifthBeats$Piano" "often" "[I", .fieldLink RX1 38 "FifthBeats$Piano" "wolf" "I", .fieldLink RX1 158 "FifthBeats$Piano" "day" "I"] ++ wsX10 ++ wsX00)
def wsX1_foresee_r1 : List Cond := [Cond.fieldLink RX1 16 "FifthBeats" "trial" "LFifthBeats$Piano;", Cond.methodLink RX1 23 yX1_checkArgument, Cond.static yX1_checkArgument, Cond.initialized RX1, Cond.code yX1_checkArgument cX1_checkArgument 3 none, Cond.classLink RX1 151 "java/lang/IllegalArgumentException", Cond.initialized "java/lang/IllegalArgumentException", Cond.methodLink RX1 96 yX1_checkWhat, Cond.static yX1_checkWhat, Cond.code yX1_checkWhat cX1_checkWhat 3 none, Cond.classLink RX1 144 "java/lang/IndexOutOfBoundsException", Cond.initialized "java/lang/IndexOutOfBoundsException", Cond.methodLink RX1 117 yX1_startTrial, Cond.instanceMethod yX1_startTrial, Cond.selects RX1 yX1_startTrial yX1_startTrial, Cond.code yX1_startTrial cX1_startTrial 2 none, Cond.fieldLink RX1 30 "FifthBeats$Piano" "narrow" "[I", Cond.fieldLink RX1 10 "FifthBeats" "piano" "LFifthBeats$Piano;", Cond.fieldLink RX1 81 "FifthBeats$Piano" "off" "[I", Cond.fieldLink RX1 55 "FifthBeats$Piano" "drift" "[I", Cond.fieldLink RX1 52 "FifthBeats$Piano" "often" "[I", Cond.fieldLink RX1 38 "FifthBeats$Piano" "wolf" "I", Cond.fieldLink RX1 158 "FifthBeats$Piano" "day" "I", Cond.methodLink RX1 90 yX0_letPass]
def wsX1_foresee_r2 : List Cond := [Cond.instanceMethod yX0_letPass, Cond.selects RX0 yX0_letPass yX0_letPass, Cond.initialized RX0, Cond.code yX0_letPass cX0_letPass 4 none, Cond.fieldLink RX0 15 "FifthBeats$Piano" "off" "[I", Cond.fieldLink RX0 18 "FifthBeats$Piano" "drift" "[I", Cond.methodLink RX0 47 Lib.Math.min.name, Cond.static Lib.Math.min.name, Cond.initialized "java/lang/Math", Cond.code Lib.Math.min.name Lib.Math.min.code 2 (some .int), Cond.methodLink RX0 50 Lib.Math.max.name, Cond.static Lib.Math.max.name, Cond.code Lib.Math.max.name Lib.Math.max.code 2 (some .int), Cond.fieldLink RX0 28 "FifthBeats$Piano" "day" "I", Cond.methodLink RX1 114 yX0_tellCount, Cond.instanceMethod yX0_tellCount, Cond.selects RX0 yX0_tellCount yX0_tellCount, Cond.code yX0_tellCount cX0_tellCount 2 (some .int), Cond.fieldLink RX0 24 "FifthBeats$Piano" "wolf" "I", Cond.methodLink RX0 89 yX0_cost, Cond.instanceMethod yX0_cost, Cond.selects RX0 yX0_cost yX0_cost, Cond.code yX0_cost cX0_cost 3 (some .int), Cond.fieldLink RX0 21 "FifthBeats$Piano" "often" "[I"]
def wsX1_foresee_r3 : List Cond := [Cond.methodLink RX0 71 yX0_sourness, Cond.instanceMethod yX0_sourness, Cond.selects RX0 yX0_sourness yX0_sourness, Cond.code yX0_sourness cX0_sourness 2 (some .int), Cond.methodLink RX0 59 Lib.Math.abs.name, Cond.static Lib.Math.abs.name, Cond.code Lib.Math.abs.name Lib.Math.abs.code 1 (some .int), Cond.methodLink RX0 44 yX0_majorOff, Cond.instanceMethod yX0_majorOff, Cond.selects RX0 yX0_majorOff yX0_majorOff, Cond.code yX0_majorOff cX0_majorOff 4 (some .int), Cond.methodLink RX0 53 yX0_narrowness, Cond.instanceMethod yX0_narrowness, Cond.selects RX0 yX0_narrowness yX0_narrowness, Cond.code yX0_narrowness cX0_narrowness 4 (some .int), Cond.fieldLink RX0 9 "FifthBeats$Piano" "narrow" "[I", Cond.methodLink RX0 31 yJ9_floorMod_7cf53, Cond.static yJ9_floorMod_7cf53, Cond.initialized RJ9, Cond.code yJ9_floorMod_7cf53 cJ9_floorMod_7cf53 3 (some .int), Cond.methodLink RX0 93 yX0_mostMajorOff, Cond.instanceMethod yX0_mostMajorOff, Cond.selects RX0 yX0_mostMajorOff yX0_mostMajorOff, Cond.code yX0_mostMajorOff cX0_mostMajorOff 3 (some .int)]
def wsX1_foresee_r4 : List Cond := [Cond.methodLink RX0 96 yX0_pureFifths, Cond.instanceMethod yX0_pureFifths, Cond.selects RX0 yX0_pureFifths yX0_pureFifths, Cond.code yX0_pureFifths cX0_pureFifths 3 (some .int), Cond.methodLink RX0 99 yX0_allOff, Cond.instanceMethod yX0_allOff, Cond.selects RX0 yX0_allOff yX0_allOff, Cond.code yX0_allOff cX0_allOff 3 (some .int), Cond.methodLink RX0 102 yX0_fastestBeats, Cond.instanceMethod yX0_fastestBeats, Cond.selects RX0 yX0_fastestBeats yX0_fastestBeats, Cond.code yX0_fastestBeats cX0_fastestBeats 3 (some .int), Cond.methodLink RX0 74 yX0_fifthBeats, Cond.instanceMethod yX0_fifthBeats, Cond.selects RX0 yX0_fifthBeats yX0_fifthBeats, Cond.code yX0_fifthBeats cX0_fifthBeats 2 (some .int), Cond.methodLink RX0 56 yX0_swings, Cond.instanceMethod yX0_swings, Cond.selects RX0 yX0_swings yX0_swings, Cond.code yX0_swings cX0_swings 2 (some .int), Cond.methodLink RX0 65 yX0_keyboardNumber, Cond.instanceMethod yX0_keyboardNumber, Cond.selects RX0 yX0_keyboardNumber yX0_keyboardNumber, Cond.code yX0_keyboardNumber cX0_keyboardNumber 2 (some .int)]
def wsX1_foresee : List Cond := .code yX1_foresee cX1_foresee 3 (some .int) :: ((wsX1_foresee_r1 ++ (wsX1_foresee_r2 ++ (wsX1_foresee_r3 ++ wsX1_foresee_r4))) ++ wsX10 ++ wsX00 ++ (vx_atS RX1 155 "java/lang/IllegalArgumentException" ["java/lang/RuntimeException", "java/lang/Exception"]).filter goodWord ++ (vx_atS RX1 148 "java/lang/IndexOutOfBoundsException" ["java/lang/RuntimeException", "java/lang/Exception"]).filter goodWord)
def wsX1_until_r1 : List Cond := [Cond.fieldLink RX1 16 "FifthBeats" "trial" "LFifthBeats$Piano;", Cond.methodLink RX1 23 yX1_checkArgument, Cond.static yX1_checkArgument, Cond.initialized RX1, Cond.code yX1_checkArgument cX1_checkArgument 3 none, Cond.classLink RX1 151 "java/lang/IllegalArgumentException", Cond.initialized "java/lang/IllegalArgumentException", Cond.methodLink RX1 117 yX1_startTrial, Cond.instanceMethod yX1_startTrial, Cond.selects RX1 yX1_startTrial yX1_startTrial, Cond.code yX1_startTrial cX1_startTrial 2 none, Cond.fieldLink RX1 30 "FifthBeats$Piano" "narrow" "[I", Cond.fieldLink RX1 10 "FifthBeats" "piano" "LFifthBeats$Piano;", Cond.fieldLink RX1 81 "FifthBeats$Piano" "off" "[I", Cond.fieldLink RX1 55 "FifthBeats$Piano" "drift" "[I", Cond.fieldLink RX1 52 "FifthBeats$Piano" "often" "[I", Cond.fieldLink RX1 38 "FifthBeats$Piano" "wolf" "I", Cond.fieldLink RX1 158 "FifthBeats$Piano" "day" "I", Cond.methodLink RX1 120 yX0_fastestBeats, Cond.instanceMethod yX0_fastestBeats, Cond.selects RX0 yX0_fastestBeats yX0_fastestBeats, Cond.initialized RX0, Cond.code yX0_fastestBeats cX0_fastestBeats 3 (some .int), Cond.fieldLink RX0 24 "FifthBeats$Piano" "wolf" "I"]
def wsX1_until_r2 : List Cond := [Cond.methodLink RX0 50 Lib.Math.max.name, Cond.static Lib.Math.max.name, Cond.initialized "java/lang/Math", Cond.code Lib.Math.max.name Lib.Math.max.code 2 (some .int), Cond.methodLink RX0 74 yX0_fifthBeats, Cond.instanceMethod yX0_fifthBeats, Cond.selects RX0 yX0_fifthBeats yX0_fifthBeats, Cond.code yX0_fifthBeats cX0_fifthBeats 2 (some .int), Cond.methodLink RX0 59 Lib.Math.abs.name, Cond.static Lib.Math.abs.name, Cond.code Lib.Math.abs.name Lib.Math.abs.code 1 (some .int), Cond.methodLink RX0 56 yX0_swings, Cond.instanceMethod yX0_swings, Cond.selects RX0 yX0_swings yX0_swings, Cond.code yX0_swings cX0_swings 2 (some .int), Cond.methodLink RX0 65 yX0_keyboardNumber, Cond.instanceMethod yX0_keyboardNumber, Cond.selects RX0 yX0_keyboardNumber yX0_keyboardNumber, Cond.code yX0_keyboardNumber cX0_keyboardNumber 2 (some .int), Cond.methodLink RX0 31 yJ9_floorMod_7cf53, Cond.static yJ9_floorMod_7cf53, Cond.initialized RJ9, Cond.code yJ9_floorMod_7cf53 cJ9_floorMod_7cf53 3 (some .int), Cond.methodLink RX0 53 yX0_narrowness]
def wsX1_until_r3 : List Cond := [Cond.instanceMethod yX0_narrowness, Cond.selects RX0 yX0_narrowness yX0_narrowness, Cond.code yX0_narrowness cX0_narrowness 4 (some .int), Cond.fieldLink RX0 9 "FifthBeats$Piano" "narrow" "[I", Cond.fieldLink RX0 15 "FifthBeats$Piano" "off" "[I", Cond.methodLink RX1 90 yX0_letPass, Cond.instanceMethod yX0_letPass, Cond.selects RX0 yX0_letPass yX0_letPass, Cond.code yX0_letPass cX0_letPass 4 none, Cond.fieldLink RX0 18 "FifthBeats$Piano" "drift" "[I", Cond.methodLink RX0 47 Lib.Math.min.name, Cond.static Lib.Math.min.name, Cond.code Lib.Math.min.name Lib.Math.min.code 2 (some .int), Cond.fieldLink RX0 28 "FifthBeats$Piano" "day" "I"]
def wsX1_until : List Cond := .code yX1_until cX1_until 3 (some .int) :: ((wsX1_until_r1 ++ (wsX1_until_r2 ++ wsX1_until_r3)) ++ wsX10 ++ wsX00 ++ (vx_atS RX1 155 "java/lang/IllegalArgumentException" ["java/lang/RuntimeException", "java/lang/Exception"]).filter goodWord)
def wsX1_costWithWolf_r1 : List Cond := [Cond.fieldLink RX1 16 "FifthBeats" "trial" "LFifthBeats$Piano;", Cond.methodLink RX1 117 yX1_startTrial, Cond.instanceMethod yX1_startTrial, Cond.selects RX1 yX1_startTrial yX1_startTrial, Cond.initialized RX1, Cond.code yX1_startTrial cX1_startTrial 2 none, Cond.fieldLink RX1 30 "FifthBeats$Piano" "narrow" "[I", Cond.fieldLink RX1 10 "FifthBeats" "piano" "LFifthBeats$Piano;", Cond.fieldLink RX1 81 "FifthBeats$Piano" "off" "[I", Cond.fieldLink RX1 55 "FifthBeats$Piano" "drift" "[I", Cond.fieldLink RX1 52 "FifthBeats$Piano" "often" "[I", Cond.fieldLink RX1 38 "FifthBeats$Piano" "wolf" "I", Cond.fieldLink RX1 158 "FifthBeats$Piano" "day" "I", Cond.methodLink RX1 42 yX0_moveWolf, Cond.instanceMethod yX0_moveWolf, Cond.selects RX0 yX0_moveWolf yX0_moveWolf, Cond.initialized RX0, Cond.code yX0_moveWolf cX0_moveWolf 5 none, Cond.fieldLink RX0 24 "FifthBeats$Piano" "wolf" "I", Cond.fieldLink RX0 9 "FifthBeats$Piano" "narrow" "[I", Cond.methodLink RX0 31 yJ9_floorMod_7cf53, Cond.static yJ9_floorMod_7cf53, Cond.initialized RJ9, Cond.code yJ9_floorMod_7cf53 cJ9_floorMod_7cf53 3 (some .int)]
def wsX1_costWithWolf_r2 : List Cond := [Cond.methodLink RX1 129 yX0_cost, Cond.instanceMethod yX0_cost, Cond.selects RX0 yX0_cost yX0_cost, Cond.code yX0_cost cX0_cost 3 (some .int), Cond.fieldLink RX0 21 "FifthBeats$Piano" "often" "[I", Cond.methodLink RX0 71 yX0_sourness, Cond.instanceMethod yX0_sourness, Cond.selects RX0 yX0_sourness yX0_sourness, Cond.code yX0_sourness cX0_sourness 2 (some .int), Cond.methodLink RX0 59 Lib.Math.abs.name, Cond.static Lib.Math.abs.name, Cond.initialized "java/lang/Math", Cond.code Lib.Math.abs.name Lib.Math.abs.code 1 (some .int), Cond.methodLink RX0 44 yX0_majorOff, Cond.instanceMethod yX0_majorOff, Cond.selects RX0 yX0_majorOff yX0_majorOff, Cond.code yX0_majorOff cX0_majorOff 4 (some .int), Cond.methodLink RX0 53 yX0_narrowness, Cond.instanceMethod yX0_narrowness, Cond.selects RX0 yX0_narrowness yX0_narrowness, Cond.code yX0_narrowness cX0_narrowness 4 (some .int), Cond.fieldLink RX0 15 "FifthBeats$Piano" "off" "[I"]
def wsX1_costWithWolf : List Cond := .code yX1_costWithWolf cX1_costWithWolf 2 (some .int) :: ((wsX1_costWithWolf_r1 ++ wsX1_costWithWolf_r2) ++ wsX10 ++ wsX00)
def wsX1_advise_r1 : List Cond := [Cond.methodLink RX1 123 yX1_costWithWolf, Cond.instanceMethod yX1_costWithWolf, Cond.selects RX1 yX1_costWithWolf yX1_costWithWolf, Cond.initialized RX1, Cond.code yX1_costWithWolf cX1_costWithWolf 2 (some .int), Cond.fieldLink RX1 16 "FifthBeats" "trial" "LFifthBeats$Piano;", Cond.methodLink RX1 117 yX1_startTrial, Cond.instanceMethod yX1_startTrial, Cond.selects RX1 yX1_startTrial yX1_startTrial, Cond.code yX1_startTrial cX1_startTrial 2 none, Cond.fieldLink RX1 30 "FifthBeats$Piano" "narrow" "[I", Cond.fieldLink RX1 10 "FifthBeats" "piano" "LFifthBeats$Piano;", Cond.fieldLink RX1 81 "FifthBeats$Piano" "off" "[I", Cond.fieldLink RX1 55 "FifthBeats$Piano" "drift" "[I", Cond.fieldLink RX1 52 "FifthBeats$Piano" "often" "[I", Cond.fieldLink RX1 38 "FifthBeats$Piano" "wolf" "I", Cond.fieldLink RX1 158 "FifthBeats$Piano" "day" "I", Cond.methodLink RX1 42 yX0_moveWolf, Cond.instanceMethod yX0_moveWolf, Cond.selects RX0 yX0_moveWolf yX0_moveWolf, Cond.initialized RX0, Cond.code yX0_moveWolf cX0_moveWolf 5 none, Cond.fieldLink RX0 24 "FifthBeats$Piano" "wolf" "I", Cond.fieldLink RX0 9 "FifthBeats$Piano" "narrow" "[I"]
def wsX1_advise_r2 : List Cond := [Cond.methodLink RX0 31 yJ9_floorMod_7cf53, Cond.static yJ9_floorMod_7cf53, Cond.initialized RJ9, Cond.code yJ9_floorMod_7cf53 cJ9_floorMod_7cf53 3 (some .int), Cond.methodLink RX1 129 yX0_cost, Cond.instanceMethod yX0_cost, Cond.selects RX0 yX0_cost yX0_cost, Cond.code yX0_cost cX0_cost 3 (some .int), Cond.fieldLink RX0 21 "FifthBeats$Piano" "often" "[I", Cond.methodLink RX0 71 yX0_sourness, Cond.instanceMethod yX0_sourness, Cond.selects RX0 yX0_sourness yX0_sourness, Cond.code yX0_sourness cX0_sourness 2 (some .int), Cond.methodLink RX0 59 Lib.Math.abs.name, Cond.static Lib.Math.abs.name, Cond.initialized "java/lang/Math", Cond.code Lib.Math.abs.name Lib.Math.abs.code 1 (some .int), Cond.methodLink RX0 44 yX0_majorOff, Cond.instanceMethod yX0_majorOff, Cond.selects RX0 yX0_majorOff yX0_majorOff, Cond.code yX0_majorOff cX0_majorOff 4 (some .int), Cond.methodLink RX0 53 yX0_narrowness, Cond.instanceMethod yX0_narrowness, Cond.selects RX0 yX0_narrowness yX0_narrowness]
def wsX1_advise_r3 : List Cond := [Cond.code yX0_narrowness cX0_narrowness 4 (some .int), Cond.fieldLink RX0 15 "FifthBeats$Piano" "off" "[I"]
def wsX1_advise : List Cond := .code yX1_advise cX1_advise 5 (some .int) :: ((wsX1_advise_r1 ++ (wsX1_advise_r2 ++ wsX1_advise_r3)) ++ wsX10 ++ wsX00)
def wsX1_costWithNarrow_r1 : List Cond := [Cond.fieldLink RX1 16 "FifthBeats" "trial" "LFifthBeats$Piano;", Cond.methodLink RX1 117 yX1_startTrial, Cond.instanceMethod yX1_startTrial, Cond.selects RX1 yX1_startTrial yX1_startTrial, Cond.initialized RX1, Cond.code yX1_startTrial cX1_startTrial 2 none, Cond.fieldLink RX1 30 "FifthBeats$Piano" "narrow" "[I", Cond.fieldLink RX1 10 "FifthBeats" "piano" "LFifthBeats$Piano;", Cond.fieldLink RX1 81 "FifthBeats$Piano" "off" "[I", Cond.fieldLink RX1 55 "FifthBeats$Piano" "drift" "[I", Cond.fieldLink RX1 52 "FifthBeats$Piano" "often" "[I", Cond.fieldLink RX1 38 "FifthBeats$Piano" "wolf" "I", Cond.fieldLink RX1 158 "FifthBeats$Piano" "day" "I", Cond.methodLink RX1 34 yX0_plan, Cond.instanceMethod yX0_plan, Cond.selects RX0 yX0_plan yX0_plan, Cond.initialized RX0, Cond.code yX0_plan cX0_plan 3 none, Cond.fieldLink RX0 9 "FifthBeats$Piano" "narrow" "[I", Cond.methodLink RX0 31 yJ9_floorMod_7cf53, Cond.static yJ9_floorMod_7cf53, Cond.initialized RJ9, Cond.code yJ9_floorMod_7cf53 cJ9_floorMod_7cf53 3 (some .int), Cond.methodLink RX0 37 yX0_giveWolfTheRest]
def wsX1_costWithNarrow_r2 : List Cond := [Cond.instanceMethod yX0_giveWolfTheRest, Cond.selects RX0 yX0_giveWolfTheRest yX0_giveWolfTheRest, Cond.code yX0_giveWolfTheRest cX0_giveWolfTheRest 3 none, Cond.fieldLink RX0 24 "FifthBeats$Piano" "wolf" "I", Cond.methodLink RX1 129 yX0_cost, Cond.instanceMethod yX0_cost, Cond.selects RX0 yX0_cost yX0_cost, Cond.code yX0_cost cX0_cost 3 (some .int), Cond.fieldLink RX0 21 "FifthBeats$Piano" "often" "[I", Cond.methodLink RX0 71 yX0_sourness, Cond.instanceMethod yX0_sourness, Cond.selects RX0 yX0_sourness yX0_sourness, Cond.code yX0_sourness cX0_sourness 2 (some .int), Cond.methodLink RX0 59 Lib.Math.abs.name, Cond.static Lib.Math.abs.name, Cond.initialized "java/lang/Math", Cond.code Lib.Math.abs.name Lib.Math.abs.code 1 (some .int), Cond.methodLink RX0 44 yX0_majorOff, Cond.instanceMethod yX0_majorOff, Cond.selects RX0 yX0_majorOff yX0_majorOff, Cond.code yX0_majorOff cX0_majorOff 4 (some .int), Cond.methodLink RX0 53 yX0_narrowness, Cond.instanceMethod yX0_narrowness, Cond.selects RX0 yX0_narrowness yX0_narrowness]
def wsX1_costWithNarrow_r3 : List Cond := [Cond.code yX0_narrowness cX0_narrowness 4 (some .int), Cond.fieldLink RX0 15 "FifthBeats$Piano" "off" "[I"]
def wsX1_costWithNarrow : List Cond := .code yX1_costWithNarrow cX1_costWithNarrow 3 (some .int) :: ((wsX1_costWithNarrow_r1 ++ (wsX1_costWithNarrow_r2 ++ wsX1_costWithNarrow_r3)) ++ wsX10 ++ wsX00)
def wsX1_temper_r1 : List Cond := [Cond.methodLink RX1 19 yX1_checkRing, Cond.static yX1_checkRing, Cond.initialized RX1, Cond.code yX1_checkRing cX1_checkRing 1 none, Cond.classLink RX1 144 "java/lang/IndexOutOfBoundsException", Cond.initialized "java/lang/IndexOutOfBoundsException", Cond.methodLink RX1 27 yX1_checkNotWolf, Cond.instanceMethod yX1_checkNotWolf, Cond.selects RX1 yX1_checkNotWolf yX1_checkNotWolf, Cond.code yX1_checkNotWolf cX1_checkNotWolf 2 none, Cond.classLink RX1 62 "java/lang/IllegalStateException", Cond.initialized "java/lang/IllegalStateException", Cond.fieldLink RX1 10 "FifthBeats" "piano" "LFifthBeats$Piano;", Cond.fieldLink RX1 38 "FifthBeats$Piano" "wolf" "I", Cond.methodLink RX1 126 yX1_costWithNarrow, Cond.instanceMethod yX1_costWithNarrow, Cond.selects RX1 yX1_costWithNarrow yX1_costWithNarrow, Cond.code yX1_costWithNarrow cX1_costWithNarrow 3 (some .int), Cond.fieldLink RX1 16 "FifthBeats" "trial" "LFifthBeats$Piano;", Cond.methodLink RX1 117 yX1_startTrial, Cond.instanceMethod yX1_startTrial, Cond.selects RX1 yX1_startTrial yX1_startTrial, Cond.code yX1_startTrial cX1_startTrial 2 none, Cond.fieldLink RX1 30 "FifthBeats$Piano" "narrow" "[I"]
def wsX1_temper_r2 : List Cond := [Cond.fieldLink RX1 81 "FifthBeats$Piano" "off" "[I", Cond.fieldLink RX1 55 "FifthBeats$Piano" "drift" "[I", Cond.fieldLink RX1 52 "FifthBeats$Piano" "often" "[I", Cond.fieldLink RX1 158 "FifthBeats$Piano" "day" "I", Cond.methodLink RX1 34 yX0_plan, Cond.instanceMethod yX0_plan, Cond.selects RX0 yX0_plan yX0_plan, Cond.initialized RX0, Cond.code yX0_plan cX0_plan 3 none, Cond.fieldLink RX0 9 "FifthBeats$Piano" "narrow" "[I", Cond.methodLink RX0 31 yJ9_floorMod_7cf53, Cond.static yJ9_floorMod_7cf53, Cond.initialized RJ9, Cond.code yJ9_floorMod_7cf53 cJ9_floorMod_7cf53 3 (some .int), Cond.methodLink RX0 37 yX0_giveWolfTheRest, Cond.instanceMethod yX0_giveWolfTheRest, Cond.selects RX0 yX0_giveWolfTheRest yX0_giveWolfTheRest, Cond.code yX0_giveWolfTheRest cX0_giveWolfTheRest 3 none, Cond.fieldLink RX0 24 "FifthBeats$Piano" "wolf" "I", Cond.methodLink RX1 129 yX0_cost, Cond.instanceMethod yX0_cost, Cond.selects RX0 yX0_cost yX0_cost, Cond.code yX0_cost cX0_cost 3 (some .int), Cond.fieldLink RX0 21 "FifthBeats$Piano" "often" "[I"]
def wsX1_temper_r3 : List Cond := [Cond.methodLink RX0 71 yX0_sourness, Cond.instanceMethod yX0_sourness, Cond.selects RX0 yX0_sourness yX0_sourness, Cond.code yX0_sourness cX0_sourness 2 (some .int), Cond.methodLink RX0 59 Lib.Math.abs.name, Cond.static Lib.Math.abs.name, Cond.initialized "java/lang/Math", Cond.code Lib.Math.abs.name Lib.Math.abs.code 1 (some .int), Cond.methodLink RX0 44 yX0_majorOff, Cond.instanceMethod yX0_majorOff, Cond.selects RX0 yX0_majorOff yX0_majorOff, Cond.code yX0_majorOff cX0_majorOff 4 (some .int), Cond.methodLink RX0 53 yX0_narrowness, Cond.instanceMethod yX0_narrowness, Cond.selects RX0 yX0_narrowness yX0_narrowness, Cond.code yX0_narrowness cX0_narrowness 4 (some .int), Cond.fieldLink RX0 15 "FifthBeats$Piano" "off" "[I"]
def wsX1_temper : List Cond := .code yX1_temper cX1_temper 6 (some .int) :: ((wsX1_temper_r1 ++ (wsX1_temper_r2 ++ wsX1_temper_r3)) ++ wsX10 ++ wsX00 ++ (vx_atS RX1 148 "java/lang/IndexOutOfBoundsException" ["java/lang/RuntimeException", "java/lang/Exception"]).filter goodWord ++ (vx_atS RX1 66 "java/lang/IllegalStateException" ["java/lang/RuntimeException", "java/lang/Exception"]).filter goodWord)
def wsX1_costWithTuned_r1 : List Cond := [Cond.fieldLink RX1 16 "FifthBeats" "trial" "LFifthBeats$Piano;", Cond.methodLink RX1 117 yX1_startTrial, Cond.instanceMethod yX1_startTrial, Cond.selects RX1 yX1_startTrial yX1_startTrial, Cond.initialized RX1, Cond.code yX1_startTrial cX1_startTrial 2 none, Cond.fieldLink RX1 30 "FifthBeats$Piano" "narrow" "[I", Cond.fieldLink RX1 10 "FifthBeats" "piano" "LFifthBeats$Piano;", Cond.fieldLink RX1 81 "FifthBeats$Piano" "off" "[I", Cond.fieldLink RX1 55 "FifthBeats$Piano" "drift" "[I", Cond.fieldLink RX1 52 "FifthBeats$Piano" "often" "[I", Cond.fieldLink RX1 38 "FifthBeats$Piano" "wolf" "I", Cond.fieldLink RX1 158 "FifthBeats$Piano" "day" "I", Cond.methodLink RX1 69 yX0_tuneOne, Cond.instanceMethod yX0_tuneOne, Cond.selects RX0 yX0_tuneOne yX0_tuneOne, Cond.initialized RX0, Cond.code yX0_tuneOne cX0_tuneOne 4 (some .int), Cond.fieldLink RX0 15 "FifthBeats$Piano" "off" "[I", Cond.methodLink RX0 31 yJ9_floorMod_7cf53, Cond.static yJ9_floorMod_7cf53, Cond.initialized RJ9, Cond.code yJ9_floorMod_7cf53 cJ9_floorMod_7cf53 3 (some .int), Cond.methodLink RX1 129 yX0_cost]
def wsX1_costWithTuned_r2 : List Cond := [Cond.instanceMethod yX0_cost, Cond.selects RX0 yX0_cost yX0_cost, Cond.code yX0_cost cX0_cost 3 (some .int), Cond.fieldLink RX0 21 "FifthBeats$Piano" "often" "[I", Cond.methodLink RX0 71 yX0_sourness, Cond.instanceMethod yX0_sourness, Cond.selects RX0 yX0_sourness yX0_sourness, Cond.code yX0_sourness cX0_sourness 2 (some .int), Cond.methodLink RX0 59 Lib.Math.abs.name, Cond.static Lib.Math.abs.name, Cond.initialized "java/lang/Math", Cond.code Lib.Math.abs.name Lib.Math.abs.code 1 (some .int), Cond.methodLink RX0 44 yX0_majorOff, Cond.instanceMethod yX0_majorOff, Cond.selects RX0 yX0_majorOff yX0_majorOff, Cond.code yX0_majorOff cX0_majorOff 4 (some .int), Cond.methodLink RX0 53 yX0_narrowness, Cond.instanceMethod yX0_narrowness, Cond.selects RX0 yX0_narrowness yX0_narrowness, Cond.code yX0_narrowness cX0_narrowness 4 (some .int), Cond.fieldLink RX0 9 "FifthBeats$Piano" "narrow" "[I"]
def wsX1_costWithTuned : List Cond := .code yX1_costWithTuned cX1_costWithTuned 2 (some .int) :: ((wsX1_costWithTuned_r1 ++ wsX1_costWithTuned_r2) ++ wsX10 ++ wsX00)
def wsX1_next_r1 : List Cond := [Cond.fieldLink RX1 10 "FifthBeats" "piano" "LFifthBeats$Piano;", Cond.methodLink RX1 129 yX0_cost, Cond.instanceMethod yX0_cost, Cond.selects RX0 yX0_cost yX0_cost, Cond.initialized RX0, Cond.code yX0_cost cX0_cost 3 (some .int), Cond.fieldLink RX0 21 "FifthBeats$Piano" "often" "[I", Cond.methodLink RX0 71 yX0_sourness, Cond.instanceMethod yX0_sourness, Cond.selects RX0 yX0_sourness yX0_sourness, Cond.code yX0_sourness cX0_sourness 2 (some .int), Cond.methodLink RX0 59 Lib.Math.abs.name, Cond.static Lib.Math.abs.name, Cond.initialized "java/lang/Math", Cond.code Lib.Math.abs.name Lib.Math.abs.code 1 (some .int), Cond.methodLink RX0 44 yX0_majorOff, Cond.instanceMethod yX0_majorOff, Cond.selects RX0 yX0_majorOff yX0_majorOff, Cond.code yX0_majorOff cX0_majorOff 4 (some .int), Cond.methodLink RX0 53 yX0_narrowness, Cond.instanceMethod yX0_narrowness, Cond.selects RX0 yX0_narrowness yX0_narrowness, Cond.code yX0_narrowness cX0_narrowness 4 (some .int), Cond.fieldLink RX0 9 "FifthBeats$Piano" "narrow" "[I"]
def wsX1_next_r2 : List Cond := [Cond.fieldLink RX0 15 "FifthBeats$Piano" "off" "[I", Cond.methodLink RX0 31 yJ9_floorMod_7cf53, Cond.static yJ9_floorMod_7cf53, Cond.initialized RJ9, Cond.code yJ9_floorMod_7cf53 cJ9_floorMod_7cf53 3 (some .int), Cond.methodLink RX1 58 yX0_canTune, Cond.instanceMethod yX0_canTune, Cond.selects RX0 yX0_canTune yX0_canTune, Cond.code yX0_canTune cX0_canTune 2 (some .boolean), Cond.fieldLink RX0 24 "FifthBeats$Piano" "wolf" "I", Cond.methodLink RX1 132 yX1_costWithTuned, Cond.instanceMethod yX1_costWithTuned, Cond.selects RX1 yX1_costWithTuned yX1_costWithTuned, Cond.initialized RX1, Cond.code yX1_costWithTuned cX1_costWithTuned 2 (some .int), Cond.fieldLink RX1 16 "FifthBeats" "trial" "LFifthBeats$Piano;", Cond.methodLink RX1 117 yX1_startTrial, Cond.instanceMethod yX1_startTrial, Cond.selects RX1 yX1_startTrial yX1_startTrial, Cond.code yX1_startTrial cX1_startTrial 2 none, Cond.fieldLink RX1 30 "FifthBeats$Piano" "narrow" "[I", Cond.fieldLink RX1 81 "FifthBeats$Piano" "off" "[I", Cond.fieldLink RX1 55 "FifthBeats$Piano" "drift" "[I", Cond.fieldLink RX1 52 "FifthBeats$Piano" "often" "[I"]
def wsX1_next_r3 : List Cond := [Cond.fieldLink RX1 38 "FifthBeats$Piano" "wolf" "I", Cond.fieldLink RX1 158 "FifthBeats$Piano" "day" "I", Cond.methodLink RX1 69 yX0_tuneOne, Cond.instanceMethod yX0_tuneOne, Cond.selects RX0 yX0_tuneOne yX0_tuneOne, Cond.code yX0_tuneOne cX0_tuneOne 4 (some .int)]
def wsX1_next : List Cond := .code yX1_next cX1_next 5 (some .int) :: ((wsX1_next_r1 ++ (wsX1_next_r2 ++ wsX1_next_r3)) ++ wsX10 ++ wsX00)
def wsX1_mean_r1 : List Cond := [Cond.fieldLink RX1 10 "FifthBeats" "piano" "LFifthBeats$Piano;", Cond.constantDouble RX1 138 (4622945017495814144), Cond.methodLink RX1 135 yX0_sourness, Cond.instanceMethod yX0_sourness, Cond.selects RX0 yX0_sourness yX0_sourness, Cond.initialized RX0, Cond.code yX0_sourness cX0_sourness 2 (some .int), Cond.methodLink RX0 59 Lib.Math.abs.name, Cond.static Lib.Math.abs.name, Cond.initialized "java/lang/Math", Cond.code Lib.Math.abs.name Lib.Math.abs.code 1 (some .int), Cond.methodLink RX0 44 yX0_majorOff, Cond.instanceMethod yX0_majorOff, Cond.selects RX0 yX0_majorOff yX0_majorOff, Cond.code yX0_majorOff cX0_majorOff 4 (some .int), Cond.methodLink RX0 53 yX0_narrowness, Cond.instanceMethod yX0_narrowness, Cond.selects RX0 yX0_narrowness yX0_narrowness, Cond.code yX0_narrowness cX0_narrowness 4 (some .int), Cond.fieldLink RX0 9 "FifthBeats$Piano" "narrow" "[I", Cond.fieldLink RX0 15 "FifthBeats$Piano" "off" "[I", Cond.methodLink RX0 31 yJ9_floorMod_7cf53, Cond.static yJ9_floorMod_7cf53, Cond.initialized RJ9]
def wsX1_mean_r2 : List Cond := [Cond.code yJ9_floorMod_7cf53 cJ9_floorMod_7cf53 3 (some .int)]
def wsX1_mean : List Cond := .code yX1_mean cX1_mean 3 (some .double) :: ((wsX1_mean_r1 ++ wsX1_mean_r2) ++ wsX10 ++ wsX00)
def wsX1_digest_r1 : List Cond := [Cond.constantLong RX1 140 (1697), Cond.constantLong RX1 142 (31), Cond.fieldLink RX1 10 "FifthBeats" "piano" "LFifthBeats$Piano;", Cond.methodLink RX1 114 yX0_tellCount, Cond.instanceMethod yX0_tellCount, Cond.selects RX0 yX0_tellCount yX0_tellCount, Cond.initialized RX0, Cond.code yX0_tellCount cX0_tellCount 2 (some .int), Cond.fieldLink RX0 28 "FifthBeats$Piano" "day" "I", Cond.fieldLink RX0 24 "FifthBeats$Piano" "wolf" "I", Cond.methodLink RX0 89 yX0_cost, Cond.instanceMethod yX0_cost, Cond.selects RX0 yX0_cost yX0_cost, Cond.code yX0_cost cX0_cost 3 (some .int), Cond.fieldLink RX0 21 "FifthBeats$Piano" "often" "[I", Cond.methodLink RX0 71 yX0_sourness, Cond.instanceMethod yX0_sourness, Cond.selects RX0 yX0_sourness yX0_sourness, Cond.code yX0_sourness cX0_sourness 2 (some .int), Cond.methodLink RX0 59 Lib.Math.abs.name, Cond.static Lib.Math.abs.name, Cond.initialized "java/lang/Math", Cond.code Lib.Math.abs.name Lib.Math.abs.code 1 (some .int), Cond.methodLink RX0 44 yX0_majorOff]
def wsX1_digest_r2 : List Cond := [Cond.instanceMethod yX0_majorOff, Cond.selects RX0 yX0_majorOff yX0_majorOff, Cond.code yX0_majorOff cX0_majorOff 4 (some .int), Cond.methodLink RX0 53 yX0_narrowness, Cond.instanceMethod yX0_narrowness, Cond.selects RX0 yX0_narrowness yX0_narrowness, Cond.code yX0_narrowness cX0_narrowness 4 (some .int), Cond.fieldLink RX0 9 "FifthBeats$Piano" "narrow" "[I", Cond.fieldLink RX0 15 "FifthBeats$Piano" "off" "[I", Cond.methodLink RX0 31 yJ9_floorMod_7cf53, Cond.static yJ9_floorMod_7cf53, Cond.initialized RJ9, Cond.code yJ9_floorMod_7cf53 cJ9_floorMod_7cf53 3 (some .int), Cond.methodLink RX0 93 yX0_mostMajorOff, Cond.instanceMethod yX0_mostMajorOff, Cond.selects RX0 yX0_mostMajorOff yX0_mostMajorOff, Cond.code yX0_mostMajorOff cX0_mostMajorOff 3 (some .int), Cond.methodLink RX0 50 Lib.Math.max.name, Cond.static Lib.Math.max.name, Cond.code Lib.Math.max.name Lib.Math.max.code 2 (some .int), Cond.methodLink RX0 96 yX0_pureFifths, Cond.instanceMethod yX0_pureFifths, Cond.selects RX0 yX0_pureFifths yX0_pureFifths, Cond.code yX0_pureFifths cX0_pureFifths 3 (some .int)]
def wsX1_digest_r3 : List Cond := [Cond.methodLink RX0 99 yX0_allOff, Cond.instanceMethod yX0_allOff, Cond.selects RX0 yX0_allOff yX0_allOff, Cond.code yX0_allOff cX0_allOff 3 (some .int), Cond.methodLink RX0 102 yX0_fastestBeats, Cond.instanceMethod yX0_fastestBeats, Cond.selects RX0 yX0_fastestBeats yX0_fastestBeats, Cond.code yX0_fastestBeats cX0_fastestBeats 3 (some .int), Cond.methodLink RX0 74 yX0_fifthBeats, Cond.instanceMethod yX0_fifthBeats, Cond.selects RX0 yX0_fifthBeats yX0_fifthBeats, Cond.code yX0_fifthBeats cX0_fifthBeats 2 (some .int), Cond.methodLink RX0 56 yX0_swings, Cond.instanceMethod yX0_swings, Cond.selects RX0 yX0_swings yX0_swings, Cond.code yX0_swings cX0_swings 2 (some .int), Cond.methodLink RX0 65 yX0_keyboardNumber, Cond.instanceMethod yX0_keyboardNumber, Cond.selects RX0 yX0_keyboardNumber yX0_keyboardNumber, Cond.code yX0_keyboardNumber cX0_keyboardNumber 2 (some .int), Cond.methodLink RX1 99 yX0_tellFifth, Cond.instanceMethod yX0_tellFifth, Cond.selects RX0 yX0_tellFifth yX0_tellFifth, Cond.code yX0_tellFifth cX0_tellFifth 4 (some .int)]
def wsX1_digest_r4 : List Cond := [Cond.methodLink RX0 68 yX0_fifthWidth, Cond.instanceMethod yX0_fifthWidth, Cond.selects RX0 yX0_fifthWidth yX0_fifthWidth, Cond.code yX0_fifthWidth cX0_fifthWidth 2 (some .int), Cond.methodLink RX1 102 yX0_tellMajor, Cond.instanceMethod yX0_tellMajor, Cond.selects RX0 yX0_tellMajor yX0_tellMajor, Cond.code yX0_tellMajor cX0_tellMajor 3 (some .int), Cond.methodLink RX0 77 yX0_majorBeats, Cond.instanceMethod yX0_majorBeats, Cond.selects RX0 yX0_majorBeats yX0_majorBeats, Cond.code yX0_majorBeats cX0_majorBeats 2 (some .int), Cond.methodLink RX1 105 yX0_tellMinor, Cond.instanceMethod yX0_tellMinor, Cond.selects RX0 yX0_tellMinor yX0_tellMinor, Cond.code yX0_tellMinor cX0_tellMinor 4 (some .int), Cond.methodLink RX0 80 yX0_minorWidth, Cond.instanceMethod yX0_minorWidth, Cond.selects RX0 yX0_minorWidth yX0_minorWidth, Cond.code yX0_minorWidth cX0_minorWidth 4 (some .int), Cond.methodLink RX1 108 yX0_tellNote, Cond.instanceMethod yX0_tellNote, Cond.selects RX0 yX0_tellNote yX0_tellNote, Cond.code yX0_tellNote cX0_tellNote 4 (some .int)]
def wsX1_digest_r5 : List Cond := [Cond.fieldLink RX0 18 "FifthBeats$Piano" "drift" "[I", Cond.methodLink RX0 83 yX0_height, Cond.instanceMethod yX0_height, Cond.selects RX0 yX0_height yX0_height, Cond.code yX0_height cX0_height 4 (some .int), Cond.methodLink RX1 111 yX0_tellKey, Cond.instanceMethod yX0_tellKey, Cond.selects RX0 yX0_tellKey yX0_tellKey, Cond.code yX0_tellKey cX0_tellKey 4 (some .int), Cond.methodLink RX0 86 yX0_place, Cond.instanceMethod yX0_place, Cond.selects RX0 yX0_place yX0_place, Cond.code yX0_place cX0_place 6 (some .int)]
def wsX1_digest : List Cond := .code yX1_digest cX1_digest 5 (some .long) :: ((wsX1_digest_r1 ++ (wsX1_digest_r2 ++ (wsX1_digest_r3 ++ (wsX1_digest_r4 ++ wsX1_digest_r5)))) ++ wsX10 ++ wsX00)
def wsX2_init : List Cond := .code yX2_init cX2_init 1 none :: ([.methodLink RX2 1 objectInit, .instanceMethod objectInit, .code objectInit ⟨#[0xb1]⟩ 1 none, .fieldLink RX2 7 "FifthBeatsModel" "wolf" "I", .arrayClass .int, .fieldLink RX2 13 "FifthBeatsModel" "plan" "[I", .fieldLink RX2 17 "FifthBeatsModel" "drift" "[I", .fieldLink RX2 20 "FifthBeatsModel" "often" "[I", .fieldLink RX2 23 "FifthBeatsModel" "off" "[I"] ++ wsX20)
def wsX2_thrown : List Cond := .code yX2_thrown cX2_thrown 1 (some .int) :: ([.fieldLink RX2 26 "FifthBeatsModel" "thrown" "I"] ++ wsX20)
def wsX2_no : List Cond := .code yX2_no cX2_no 2 (some .int) :: ([.fieldLink RX2 26 "FifthBeatsModel" "thrown" "I"] ++ wsX20)
def wsX2_isIn : List Cond := .code yX2_isIn cX2_isIn 3 (some .boolean) :: ([])
def wsX2_isOne : List Cond := .code yX2_isOne cX2_isOne 1 (some .boolean) :: ([.methodLink RX2 29 yX2_isIn, .static yX2_isIn, .initialized RX2, .code yX2_isIn cX2_isIn 3 (some .boolean)])
def wsX2_held : List Cond := .code yX2_held cX2_held 1 (some .int) :: ([.methodLink RX2 33 Lib.Math.min.name, .static Lib.Math.min.name, .initialized "java/lang/Math", .code Lib.Math.min.name Lib.Math.min.code 2 (some .int), .methodLink RX2 39 Lib.Math.max.name, .static Lib.Math.max.name, .code Lib.Math.max.name Lib.Math.max.code 2 (some .int)])
def wsX2_planOf : List Cond := .code yX2_planOf cX2_planOf 5 (some .int) :: ([.fieldLink RX2 7 "FifthBeatsModel" "wolf" "I", .fieldLink RX2 13 "FifthBeatsModel" "plan" "[I"] ++ wsX20)
def wsX2_offOf : List Cond := .code yX2_offOf cX2_offOf 2 (some .int) :: ([.fieldLink RX2 23 "FifthBeatsModel" "off" "[I"] ++ wsX20)
def wsX2_narrow : List Cond := .code yX2_narrow cX2_narrow 5 (some .int) :: ([.methodLink RX2 42 yX2_offOf, .instanceMethod yX2_offOf, .selects RX2 yX2_offOf yX2_offOf, .initialized RX2, .code yX2_offOf cX2_offOf 2 (some .int), .fieldLink RX2 23 "FifthBeatsModel" "off" "[I", .methodLink RX2 46 yX2_planOf, .instanceMethod yX2_planOf, .selects RX2 yX2_planOf yX2_planOf, .code yX2_planOf cX2_planOf 5 (some .int), .fieldLink RX2 7 "FifthBeatsModel" "wolf" "I", .fieldLink RX2 13 "FifthBeatsModel" "plan" "[I"] ++ wsX20)
def wsX2_majorOff : List Cond := .code yX2_majorOff cX2_majorOff 2 (some .int) :: ([.methodLink RX2 49 yX2_narrow, .instanceMethod yX2_narrow, .selects RX2 yX2_narrow yX2_narrow, .initialized RX2, .code yX2_narrow cX2_narrow 5 (some .int), .methodLink RX2 42 yX2_offOf, .instanceMethod yX2_offOf, .selects RX2 yX2_offOf yX2_offOf, .code yX2_offOf cX2_offOf 2 (some .int), .fieldLink RX2 23 "FifthBeatsModel" "off" "[I", .methodLink RX2 46 yX2_planOf, .instanceMethod yX2_planOf, .selects RX2 yX2_planOf yX2_planOf, .code yX2_planOf cX2_planOf 5 (some .int), .fieldLink RX2 7 "FifthBeatsModel" "wolf" "I", .fieldLink RX2 13 "FifthBeatsModel" "plan" "[I"] ++ wsX20)
def wsX2_minorOff : List Cond := .code yX2_minorOff cX2_minorOff 2 (some .int) :: ([.methodLink RX2 49 yX2_narrow, .instanceMethod yX2_narrow, .selects RX2 yX2_narrow yX2_narrow, .initialized RX2, .code yX2_narrow cX2_narrow 5 (some .int), .methodLink RX2 42 yX2_offOf, .instanceMethod yX2_offOf, .selects RX2 yX2_offOf yX2_offOf, .code yX2_offOf cX2_offOf 2 (some .int), .fieldLink RX2 23 "FifthBeatsModel" "off" "[I", .methodLink RX2 46 yX2_planOf, .instanceMethod yX2_planOf, .selects RX2 yX2_planOf yX2_planOf, .code yX2_planOf cX2_planOf 5 (some .int), .fieldLink RX2 7 "FifthBeatsModel" "wolf" "I", .fieldLink RX2 13 "FifthBeatsModel" "plan" "[I"] ++ wsX20)
def wsX2_keyOf : List Cond := .code yX2_keyOf cX2_keyOf 1 (some .int) :: ([])
def wsX2_beats : List Cond := .code yX2_beats cX2_beats 3 (some .int) :: ([.fieldLink RX2 52 "FifthBeatsModel" "SWINGS" "[I", .methodLink RX2 58 Lib.Math.abs.name, .static Lib.Math.abs.name, .initialized "java/lang/Math", .code Lib.Math.abs.name Lib.Math.abs.code 1 (some .int), .methodLink RX2 55 yX2_keyOf, .static yX2_keyOf, .initialized RX2, .code yX2_keyOf cX2_keyOf 1 (some .int)])
def wsX2_fifthBeats_r1 : List Cond := [Cond.methodLink RX2 49 yX2_narrow, Cond.instanceMethod yX2_narrow, Cond.selects RX2 yX2_narrow yX2_narrow, Cond.initialized RX2, Cond.code yX2_narrow cX2_narrow 5 (some .int), Cond.methodLink RX2 42 yX2_offOf, Cond.instanceMethod yX2_offOf, Cond.selects RX2 yX2_offOf yX2_offOf, Cond.code yX2_offOf cX2_offOf 2 (some .int), Cond.fieldLink RX2 23 "FifthBeatsModel" "off" "[I", Cond.methodLink RX2 46 yX2_planOf, Cond.instanceMethod yX2_planOf, Cond.selects RX2 yX2_planOf yX2_planOf, Cond.code yX2_planOf cX2_planOf 5 (some .int), Cond.fieldLink RX2 7 "FifthBeatsModel" "wolf" "I", Cond.fieldLink RX2 13 "FifthBeatsModel" "plan" "[I", Cond.methodLink RX2 61 yX2_beats, Cond.static yX2_beats, Cond.code yX2_beats cX2_beats 3 (some .int), Cond.fieldLink RX2 52 "FifthBeatsModel" "SWINGS" "[I", Cond.methodLink RX2 58 Lib.Math.abs.name, Cond.static Lib.Math.abs.name, Cond.initialized "java/lang/Math", Cond.code Lib.Math.abs.name Lib.Math.abs.code 1 (some .int)]
def wsX2_fifthBeats_r2 : List Cond := [Cond.methodLink RX2 55 yX2_keyOf, Cond.static yX2_keyOf, Cond.code yX2_keyOf cX2_keyOf 1 (some .int)]
def wsX2_fifthBeats : List Cond := .code yX2_fifthBeats cX2_fifthBeats 2 (some .int) :: ((wsX2_fifthBeats_r1 ++ wsX2_fifthBeats_r2) ++ wsX20)
def wsX2_sour : List Cond := .code yX2_sour cX2_sour 2 (some .int) :: ([.methodLink RX2 58 Lib.Math.abs.name, .static Lib.Math.abs.name, .initialized "java/lang/Math", .code Lib.Math.abs.name Lib.Math.abs.code 1 (some .int), .methodLink RX2 65 yX2_majorOff, .instanceMethod yX2_majorOff, .selects RX2 yX2_majorOff yX2_majorOff, .initialized RX2, .code yX2_majorOff cX2_majorOff 2 (some .int), .methodLink RX2 49 yX2_narrow, .instanceMethod yX2_narrow, .selects RX2 yX2_narrow yX2_narrow, .code yX2_narrow cX2_narrow 5 (some .int), .methodLink RX2 42 yX2_offOf, .instanceMethod yX2_offOf, .selects RX2 yX2_offOf yX2_offOf, .code yX2_offOf cX2_offOf 2 (some .int), .fieldLink RX2 23 "FifthBeatsModel" "off" "[I", .methodLink RX2 46 yX2_planOf, .instanceMethod yX2_planOf, .selects RX2 yX2_planOf yX2_planOf, .code yX2_planOf cX2_planOf 5 (some .int), .fieldLink RX2 7 "FifthBeatsModel" "wolf" "I", .fieldLink RX2 13 "FifthBeatsModel" "plan" "[I"] ++ wsX20)
def wsX2_costs_r1 : List Cond := [Cond.fieldLink RX2 20 "FifthBeatsModel" "often" "[I", Cond.methodLink RX2 68 yX2_sour, Cond.instanceMethod yX2_sour, Cond.selects RX2 yX2_sour yX2_sour, Cond.initialized RX2, Cond.code yX2_sour cX2_sour 2 (some .int), Cond.methodLink RX2 58 Lib.Math.abs.name, Cond.static Lib.Math.abs.name, Cond.initialized "java/lang/Math", Cond.code Lib.Math.abs.name Lib.Math.abs.code 1 (some .int), Cond.methodLink RX2 65 yX2_majorOff, Cond.instanceMethod yX2_majorOff, Cond.selects RX2 yX2_majorOff yX2_majorOff, Cond.code yX2_majorOff cX2_majorOff 2 (some .int), Cond.methodLink RX2 49 yX2_narrow, Cond.instanceMethod yX2_narrow, Cond.selects RX2 yX2_narrow yX2_narrow, Cond.code yX2_narrow cX2_narrow 5 (some .int), Cond.methodLink RX2 42 yX2_offOf, Cond.instanceMethod yX2_offOf, Cond.selects RX2 yX2_offOf yX2_offOf, Cond.code yX2_offOf cX2_offOf 2 (some .int), Cond.fieldLink RX2 23 "FifthBeatsModel" "off" "[I", Cond.methodLink RX2 46 yX2_planOf]
def wsX2_costs_r2 : List Cond := [Cond.instanceMethod yX2_planOf, Cond.selects RX2 yX2_planOf yX2_planOf, Cond.code yX2_planOf cX2_planOf 5 (some .int), Cond.fieldLink RX2 7 "FifthBeatsModel" "wolf" "I", Cond.fieldLink RX2 13 "FifthBeatsModel" "plan" "[I"]
def wsX2_costs : List Cond := .code yX2_costs cX2_costs 3 (some .int) :: ((wsX2_costs_r1 ++ wsX2_costs_r2) ++ wsX20)
def wsX2_place_r1 : List Cond := [Cond.methodLink RX2 68 yX2_sour, Cond.instanceMethod yX2_sour, Cond.selects RX2 yX2_sour yX2_sour, Cond.initialized RX2, Cond.code yX2_sour cX2_sour 2 (some .int), Cond.methodLink RX2 58 Lib.Math.abs.name, Cond.static Lib.Math.abs.name, Cond.initialized "java/lang/Math", Cond.code Lib.Math.abs.name Lib.Math.abs.code 1 (some .int), Cond.methodLink RX2 65 yX2_majorOff, Cond.instanceMethod yX2_majorOff, Cond.selects RX2 yX2_majorOff yX2_majorOff, Cond.code yX2_majorOff cX2_majorOff 2 (some .int), Cond.methodLink RX2 49 yX2_narrow, Cond.instanceMethod yX2_narrow, Cond.selects RX2 yX2_narrow yX2_narrow, Cond.code yX2_narrow cX2_narrow 5 (some .int), Cond.methodLink RX2 42 yX2_offOf, Cond.instanceMethod yX2_offOf, Cond.selects RX2 yX2_offOf yX2_offOf, Cond.code yX2_offOf cX2_offOf 2 (some .int), Cond.fieldLink RX2 23 "FifthBeatsModel" "off" "[I", Cond.methodLink RX2 46 yX2_planOf, Cond.instanceMethod yX2_planOf]
def wsX2_place_r2 : List Cond := [Cond.selects RX2 yX2_planOf yX2_planOf, Cond.code yX2_planOf cX2_planOf 5 (some .int), Cond.fieldLink RX2 7 "FifthBeatsModel" "wolf" "I", Cond.fieldLink RX2 13 "FifthBeatsModel" "plan" "[I"]
def wsX2_place : List Cond := .code yX2_place cX2_place 4 (some .int) :: ((wsX2_place_r1 ++ wsX2_place_r2) ++ wsX20)
def wsX2_fastest_r1 : List Cond := [Cond.fieldLink RX2 7 "FifthBeatsModel" "wolf" "I", Cond.methodLink RX2 39 Lib.Math.max.name, Cond.static Lib.Math.max.name, Cond.initialized "java/lang/Math", Cond.code Lib.Math.max.name Lib.Math.max.code 2 (some .int), Cond.methodLink RX2 71 yX2_fifthBeats, Cond.instanceMethod yX2_fifthBeats, Cond.selects RX2 yX2_fifthBeats yX2_fifthBeats, Cond.initialized RX2, Cond.code yX2_fifthBeats cX2_fifthBeats 2 (some .int), Cond.methodLink RX2 49 yX2_narrow, Cond.instanceMethod yX2_narrow, Cond.selects RX2 yX2_narrow yX2_narrow, Cond.code yX2_narrow cX2_narrow 5 (some .int), Cond.methodLink RX2 42 yX2_offOf, Cond.instanceMethod yX2_offOf, Cond.selects RX2 yX2_offOf yX2_offOf, Cond.code yX2_offOf cX2_offOf 2 (some .int), Cond.fieldLink RX2 23 "FifthBeatsModel" "off" "[I", Cond.methodLink RX2 46 yX2_planOf, Cond.instanceMethod yX2_planOf, Cond.selects RX2 yX2_planOf yX2_planOf, Cond.code yX2_planOf cX2_planOf 5 (some .int), Cond.fieldLink RX2 13 "FifthBeatsModel" "plan" "[I"]
def wsX2_fastest_r2 : List Cond := [Cond.methodLink RX2 61 yX2_beats, Cond.static yX2_beats, Cond.code yX2_beats cX2_beats 3 (some .int), Cond.fieldLink RX2 52 "FifthBeatsModel" "SWINGS" "[I", Cond.methodLink RX2 58 Lib.Math.abs.name, Cond.static Lib.Math.abs.name, Cond.code Lib.Math.abs.name Lib.Math.abs.code 1 (some .int), Cond.methodLink RX2 55 yX2_keyOf, Cond.static yX2_keyOf, Cond.code yX2_keyOf cX2_keyOf 1 (some .int)]
def wsX2_fastest : List Cond := .code yX2_fastest cX2_fastest 3 (some .int) :: ((wsX2_fastest_r1 ++ wsX2_fastest_r2) ++ wsX20)
def wsX2_setFifth : List Cond := .code yX2_setFifth cX2_setFifth 4 (some .int) :: ([.fieldLink RX2 26 "FifthBeatsModel" "thrown" "I", .fieldLink RX2 7 "FifthBeatsModel" "wolf" "I", .fieldLink RX2 13 "FifthBeatsModel" "plan" "[I", .methodLink RX2 74 yX2_isOne, .static yX2_isOne, .initialized RX2, .code yX2_isOne cX2_isOne 1 (some .boolean), .methodLink RX2 29 yX2_isIn, .static yX2_isIn, .code yX2_isIn cX2_isIn 3 (some .boolean), .methodLink RX2 78 yX2_no, .instanceMethod yX2_no, .selects RX2 yX2_no yX2_no, .code yX2_no cX2_no 2 (some .int)] ++ wsX20)
def wsX2_shiftTo : List Cond := .code yX2_shiftTo cX2_shiftTo 2 none :: ([.fieldLink RX2 13 "FifthBeatsModel" "plan" "[I", .fieldLink RX2 7 "FifthBeatsModel" "wolf" "I", .methodLink RX2 46 yX2_planOf, .instanceMethod yX2_planOf, .selects RX2 yX2_planOf yX2_planOf, .initialized RX2, .code yX2_planOf cX2_planOf 5 (some .int)] ++ wsX20)
def wsX2_shift : List Cond := .code yX2_shift cX2_shift 3 (some .int) :: ([.fieldLink RX2 26 "FifthBeatsModel" "thrown" "I", .fieldLink RX2 7 "FifthBeatsModel" "wolf" "I", .methodLink RX2 74 yX2_isOne, .static yX2_isOne, .initialized RX2, .code yX2_isOne cX2_isOne 1 (some .boolean), .methodLink RX2 29 yX2_isIn, .static yX2_isIn, .code yX2_isIn cX2_isIn 3 (some .boolean), .methodLink RX2 78 yX2_no, .instanceMethod yX2_no, .selects RX2 yX2_no yX2_no, .code yX2_no cX2_no 2 (some .int), .methodLink RX2 81 yX2_shiftTo, .instanceMethod yX2_shiftTo, .selects RX2 yX2_shiftTo yX2_shiftTo, .code yX2_shiftTo cX2_shiftTo 2 none, .fieldLink RX2 13 "FifthBeatsModel" "plan" "[I", .methodLink RX2 46 yX2_planOf, .instanceMethod yX2_planOf, .selects RX2 yX2_planOf yX2_planOf, .code yX2_planOf cX2_planOf 5 (some .int)] ++ wsX20)
def wsX2_spread : List Cond := .code yX2_spread cX2_spread 4 (some .int) :: ([.fieldLink RX2 26 "FifthBeatsModel" "thrown" "I", .fieldLink RX2 7 "FifthBeatsModel" "wolf" "I", .fieldLink RX2 13 "FifthBeatsModel" "plan" "[I", .methodLink RX2 29 yX2_isIn, .static yX2_isIn, .initialized RX2, .code yX2_isIn cX2_isIn 3 (some .boolean), .methodLink RX2 78 yX2_no, .instanceMethod yX2_no, .selects RX2 yX2_no yX2_no, .code yX2_no cX2_no 2 (some .int), .methodLink RX2 46 yX2_planOf, .instanceMethod yX2_planOf, .selects RX2 yX2_planOf yX2_planOf, .code yX2_planOf cX2_planOf 5 (some .int)] ++ wsX20)
def wsX2_setOften : List Cond := .code yX2_setOften cX2_setOften 4 (some .int) :: ([.fieldLink RX2 26 "FifthBeatsModel" "thrown" "I", .fieldLink RX2 20 "FifthBeatsModel" "often" "[I", .methodLink RX2 74 yX2_isOne, .static yX2_isOne, .initialized RX2, .code yX2_isOne cX2_isOne 1 (some .boolean), .methodLink RX2 29 yX2_isIn, .static yX2_isIn, .code yX2_isIn cX2_isIn 3 (some .boolean), .methodLink RX2 78 yX2_no, .instanceMethod yX2_no, .selects RX2 yX2_no yX2_no, .code yX2_no cX2_no 2 (some .int)] ++ wsX20)
def wsX2_setDrift : List Cond := .code yX2_setDrift cX2_setDrift 4 (some .int) :: ([.fieldLink RX2 26 "FifthBeatsModel" "thrown" "I", .fieldLink RX2 17 "FifthBeatsModel" "drift" "[I", .methodLink RX2 74 yX2_isOne, .static yX2_isOne, .initialized RX2, .code yX2_isOne cX2_isOne 1 (some .boolean), .methodLink RX2 29 yX2_isIn, .static yX2_isIn, .code yX2_isIn cX2_isIn 3 (some .boolean), .methodLink RX2 78 yX2_no, .instanceMethod yX2_no, .selects RX2 yX2_no yX2_no, .code yX2_no cX2_no 2 (some .int)] ++ wsX20)
def wsX2_ahead : List Cond := .code yX2_ahead cX2_ahead 1 (some .int) :: ([])
def wsX2_canTune : List Cond := .code yX2_canTune cX2_canTune 2 (some .boolean) :: ([.fieldLink RX2 7 "FifthBeatsModel" "wolf" "I", .methodLink RX2 85 yX2_ahead, .static yX2_ahead, .initialized RX2, .code yX2_ahead cX2_ahead 1 (some .int)] ++ wsX20)
def wsX2_tuned : List Cond := .code yX2_tuned cX2_tuned 3 (some .int) :: ([.fieldLink RX2 23 "FifthBeatsModel" "off" "[I", .methodLink RX2 85 yX2_ahead, .static yX2_ahead, .initialized RX2, .code yX2_ahead cX2_ahead 1 (some .int)] ++ wsX20)
def wsX2_tune_r1 : List Cond := [Cond.fieldLink RX2 26 "FifthBeatsModel" "thrown" "I", Cond.methodLink RX2 74 yX2_isOne, Cond.static yX2_isOne, Cond.initialized RX2, Cond.code yX2_isOne cX2_isOne 1 (some .boolean), Cond.methodLink RX2 29 yX2_isIn, Cond.static yX2_isIn, Cond.code yX2_isIn cX2_isIn 3 (some .boolean), Cond.methodLink RX2 78 yX2_no, Cond.instanceMethod yX2_no, Cond.selects RX2 yX2_no yX2_no, Cond.code yX2_no cX2_no 2 (some .int), Cond.methodLink RX2 88 yX2_canTune, Cond.instanceMethod yX2_canTune, Cond.selects RX2 yX2_canTune yX2_canTune, Cond.code yX2_canTune cX2_canTune 2 (some .boolean), Cond.fieldLink RX2 7 "FifthBeatsModel" "wolf" "I", Cond.methodLink RX2 85 yX2_ahead, Cond.static yX2_ahead, Cond.code yX2_ahead cX2_ahead 1 (some .int), Cond.methodLink RX2 91 yX2_tuned, Cond.instanceMethod yX2_tuned, Cond.selects RX2 yX2_tuned yX2_tuned, Cond.code yX2_tuned cX2_tuned 3 (some .int)]
def wsX2_tune_r2 : List Cond := [Cond.fieldLink RX2 23 "FifthBeatsModel" "off" "[I"]
def wsX2_tune : List Cond := .code yX2_tune cX2_tune 2 (some .int) :: ((wsX2_tune_r1 ++ wsX2_tune_r2) ++ wsX20)
def wsX2_tuneAll : List Cond := .code yX2_tuneAll cX2_tuneAll 3 (some .int) :: ([.fieldLink RX2 26 "FifthBeatsModel" "thrown" "I", .fieldLink RX2 7 "FifthBeatsModel" "wolf" "I", .methodLink RX2 91 yX2_tuned, .instanceMethod yX2_tuned, .selects RX2 yX2_tuned yX2_tuned, .initialized RX2, .code yX2_tuned cX2_tuned 3 (some .int), .fieldLink RX2 23 "FifthBeatsModel" "off" "[I", .methodLink RX2 85 yX2_ahead, .static yX2_ahead, .code yX2_ahead cX2_ahead 1 (some .int)] ++ wsX20)
def wsX2_sweeten_r1 : List Cond := [Cond.fieldLink RX2 26 "FifthBeatsModel" "thrown" "I", Cond.fieldLink RX2 23 "FifthBeatsModel" "off" "[I", Cond.methodLink RX2 74 yX2_isOne, Cond.static yX2_isOne, Cond.initialized RX2, Cond.code yX2_isOne cX2_isOne 1 (some .boolean), Cond.methodLink RX2 29 yX2_isIn, Cond.static yX2_isIn, Cond.code yX2_isIn cX2_isIn 3 (some .boolean), Cond.methodLink RX2 78 yX2_no, Cond.instanceMethod yX2_no, Cond.selects RX2 yX2_no yX2_no, Cond.code yX2_no cX2_no 2 (some .int), Cond.methodLink RX2 65 yX2_majorOff, Cond.instanceMethod yX2_majorOff, Cond.selects RX2 yX2_majorOff yX2_majorOff, Cond.code yX2_majorOff cX2_majorOff 2 (some .int), Cond.methodLink RX2 49 yX2_narrow, Cond.instanceMethod yX2_narrow, Cond.selects RX2 yX2_narrow yX2_narrow, Cond.code yX2_narrow cX2_narrow 5 (some .int), Cond.methodLink RX2 42 yX2_offOf, Cond.instanceMethod yX2_offOf, Cond.selects RX2 yX2_offOf yX2_offOf]
def wsX2_sweeten_r2 : List Cond := [Cond.code yX2_offOf cX2_offOf 2 (some .int), Cond.methodLink RX2 46 yX2_planOf, Cond.instanceMethod yX2_planOf, Cond.selects RX2 yX2_planOf yX2_planOf, Cond.code yX2_planOf cX2_planOf 5 (some .int), Cond.fieldLink RX2 7 "FifthBeatsModel" "wolf" "I", Cond.fieldLink RX2 13 "FifthBeatsModel" "plan" "[I", Cond.methodLink RX2 94 yX2_held, Cond.static yX2_held, Cond.code yX2_held cX2_held 1 (some .int), Cond.methodLink RX2 33 Lib.Math.min.name, Cond.static Lib.Math.min.name, Cond.initialized "java/lang/Math", Cond.code Lib.Math.min.name Lib.Math.min.code 2 (some .int), Cond.methodLink RX2 39 Lib.Math.max.name, Cond.static Lib.Math.max.name, Cond.code Lib.Math.max.name Lib.Math.max.code 2 (some .int)]
def wsX2_sweeten : List Cond := .code yX2_sweeten cX2_sweeten 4 (some .int) :: ((wsX2_sweeten_r1 ++ wsX2_sweeten_r2) ++ wsX20)
def wsX2_pass : List Cond := .code yX2_pass cX2_pass 2 none :: ([.fieldLink RX2 23 "FifthBeatsModel" "off" "[I", .fieldLink RX2 17 "FifthBeatsModel" "drift" "[I", .fieldLink RX2 97 "FifthBeatsModel" "day" "I", .methodLink RX2 94 yX2_held, .static yX2_held, .initialized RX2, .code yX2_held cX2_held 1 (some .int), .methodLink RX2 33 Lib.Math.min.name, .static Lib.Math.min.name, .initialized "java/lang/Math", .code Lib.Math.min.name Lib.Math.min.code 2 (some .int), .methodLink RX2 39 Lib.Math.max.name, .static Lib.Math.max.name, .code Lib.Math.max.name Lib.Math.max.code 2 (some .int)] ++ wsX20)
def wsX2_pass__r1 : List Cond := [Cond.fieldLink RX2 26 "FifthBeatsModel" "thrown" "I", Cond.fieldLink RX2 23 "FifthBeatsModel" "off" "[I", Cond.methodLink RX2 58 Lib.Math.abs.name, Cond.static Lib.Math.abs.name, Cond.initialized "java/lang/Math", Cond.code Lib.Math.abs.name Lib.Math.abs.code 1 (some .int), Cond.methodLink RX2 39 Lib.Math.max.name, Cond.static Lib.Math.max.name, Cond.code Lib.Math.max.name Lib.Math.max.code 2 (some .int), Cond.methodLink RX2 29 yX2_isIn, Cond.static yX2_isIn, Cond.initialized RX2, Cond.code yX2_isIn cX2_isIn 3 (some .boolean), Cond.methodLink RX2 78 yX2_no, Cond.instanceMethod yX2_no, Cond.selects RX2 yX2_no yX2_no, Cond.code yX2_no cX2_no 2 (some .int), Cond.methodLink RX2 100 yX2_pass, Cond.instanceMethod yX2_pass, Cond.selects RX2 yX2_pass yX2_pass, Cond.code yX2_pass cX2_pass 2 none, Cond.fieldLink RX2 17 "FifthBeatsModel" "drift" "[I", Cond.fieldLink RX2 97 "FifthBeatsModel" "day" "I", Cond.methodLink RX2 94 yX2_held]
def wsX2_pass__r2 : List Cond := [Cond.static yX2_held, Cond.code yX2_held cX2_held 1 (some .int), Cond.methodLink RX2 33 Lib.Math.min.name, Cond.static Lib.Math.min.name, Cond.code Lib.Math.min.name Lib.Math.min.code 2 (some .int)]
def wsX2_pass_ : List Cond := .code yX2_pass_ cX2_pass_ 7 (some .int) :: ((wsX2_pass__r1 ++ wsX2_pass__r2) ++ wsX20)
def wsX2_fifthTold_r1 : List Cond := [Cond.fieldLink RX2 7 "FifthBeatsModel" "wolf" "I", Cond.methodLink RX2 46 yX2_planOf, Cond.instanceMethod yX2_planOf, Cond.selects RX2 yX2_planOf yX2_planOf, Cond.initialized RX2, Cond.code yX2_planOf cX2_planOf 5 (some .int), Cond.fieldLink RX2 13 "FifthBeatsModel" "plan" "[I", Cond.methodLink RX2 49 yX2_narrow, Cond.instanceMethod yX2_narrow, Cond.selects RX2 yX2_narrow yX2_narrow, Cond.code yX2_narrow cX2_narrow 5 (some .int), Cond.methodLink RX2 42 yX2_offOf, Cond.instanceMethod yX2_offOf, Cond.selects RX2 yX2_offOf yX2_offOf, Cond.code yX2_offOf cX2_offOf 2 (some .int), Cond.fieldLink RX2 23 "FifthBeatsModel" "off" "[I", Cond.methodLink RX2 71 yX2_fifthBeats, Cond.instanceMethod yX2_fifthBeats, Cond.selects RX2 yX2_fifthBeats yX2_fifthBeats, Cond.code yX2_fifthBeats cX2_fifthBeats 2 (some .int), Cond.methodLink RX2 61 yX2_beats, Cond.static yX2_beats, Cond.code yX2_beats cX2_beats 3 (some .int), Cond.fieldLink RX2 52 "FifthBeatsModel" "SWINGS" "[I"]
def wsX2_fifthTold_r2 : List Cond := [Cond.methodLink RX2 58 Lib.Math.abs.name, Cond.static Lib.Math.abs.name, Cond.initialized "java/lang/Math", Cond.code Lib.Math.abs.name Lib.Math.abs.code 1 (some .int), Cond.methodLink RX2 55 yX2_keyOf, Cond.static yX2_keyOf, Cond.code yX2_keyOf cX2_keyOf 1 (some .int)]
def wsX2_fifthTold : List Cond := .code yX2_fifthTold cX2_fifthTold 3 (some .int) :: ((wsX2_fifthTold_r1 ++ wsX2_fifthTold_r2) ++ wsX20)
def wsX2_fifth_r1 : List Cond := [Cond.fieldLink RX2 26 "FifthBeatsModel" "thrown" "I", Cond.methodLink RX2 74 yX2_isOne, Cond.static yX2_isOne, Cond.initialized RX2, Cond.code yX2_isOne cX2_isOne 1 (some .boolean), Cond.methodLink RX2 29 yX2_isIn, Cond.static yX2_isIn, Cond.code yX2_isIn cX2_isIn 3 (some .boolean), Cond.methodLink RX2 103 yX2_fifthTold, Cond.instanceMethod yX2_fifthTold, Cond.selects RX2 yX2_fifthTold yX2_fifthTold, Cond.code yX2_fifthTold cX2_fifthTold 3 (some .int), Cond.fieldLink RX2 7 "FifthBeatsModel" "wolf" "I", Cond.methodLink RX2 46 yX2_planOf, Cond.instanceMethod yX2_planOf, Cond.selects RX2 yX2_planOf yX2_planOf, Cond.code yX2_planOf cX2_planOf 5 (some .int), Cond.fieldLink RX2 13 "FifthBeatsModel" "plan" "[I", Cond.methodLink RX2 49 yX2_narrow, Cond.instanceMethod yX2_narrow, Cond.selects RX2 yX2_narrow yX2_narrow, Cond.code yX2_narrow cX2_narrow 5 (some .int), Cond.methodLink RX2 42 yX2_offOf, Cond.instanceMethod yX2_offOf]
def wsX2_fifth_r2 : List Cond := [Cond.selects RX2 yX2_offOf yX2_offOf, Cond.code yX2_offOf cX2_offOf 2 (some .int), Cond.fieldLink RX2 23 "FifthBeatsModel" "off" "[I", Cond.methodLink RX2 71 yX2_fifthBeats, Cond.instanceMethod yX2_fifthBeats, Cond.selects RX2 yX2_fifthBeats yX2_fifthBeats, Cond.code yX2_fifthBeats cX2_fifthBeats 2 (some .int), Cond.methodLink RX2 61 yX2_beats, Cond.static yX2_beats, Cond.code yX2_beats cX2_beats 3 (some .int), Cond.fieldLink RX2 52 "FifthBeatsModel" "SWINGS" "[I", Cond.methodLink RX2 58 Lib.Math.abs.name, Cond.static Lib.Math.abs.name, Cond.initialized "java/lang/Math", Cond.code Lib.Math.abs.name Lib.Math.abs.code 1 (some .int), Cond.methodLink RX2 55 yX2_keyOf, Cond.static yX2_keyOf, Cond.code yX2_keyOf cX2_keyOf 1 (some .int), Cond.methodLink RX2 78 yX2_no, Cond.instanceMethod yX2_no, Cond.selects RX2 yX2_no yX2_no, Cond.code yX2_no cX2_no 2 (some .int)]
def wsX2_fifth : List Cond := .code yX2_fifth cX2_fifth 3 (some .int) :: ((wsX2_fifth_r1 ++ wsX2_fifth_r2) ++ wsX20)
def wsX2_majorTold_r1 : List Cond := [Cond.methodLink RX2 65 yX2_majorOff, Cond.instanceMethod yX2_majorOff, Cond.selects RX2 yX2_majorOff yX2_majorOff, Cond.initialized RX2, Cond.code yX2_majorOff cX2_majorOff 2 (some .int), Cond.methodLink RX2 49 yX2_narrow, Cond.instanceMethod yX2_narrow, Cond.selects RX2 yX2_narrow yX2_narrow, Cond.code yX2_narrow cX2_narrow 5 (some .int), Cond.methodLink RX2 42 yX2_offOf, Cond.instanceMethod yX2_offOf, Cond.selects RX2 yX2_offOf yX2_offOf, Cond.code yX2_offOf cX2_offOf 2 (some .int), Cond.fieldLink RX2 23 "FifthBeatsModel" "off" "[I", Cond.methodLink RX2 46 yX2_planOf, Cond.instanceMethod yX2_planOf, Cond.selects RX2 yX2_planOf yX2_planOf, Cond.code yX2_planOf cX2_planOf 5 (some .int), Cond.fieldLink RX2 7 "FifthBeatsModel" "wolf" "I", Cond.fieldLink RX2 13 "FifthBeatsModel" "plan" "[I", Cond.methodLink RX2 61 yX2_beats, Cond.static yX2_beats, Cond.code yX2_beats cX2_beats 3 (some .int), Cond.fieldLink RX2 52 "FifthBeatsModel" "SWINGS" "[I"]
def wsX2_majorTold_r2 : List Cond := [Cond.methodLink RX2 58 Lib.Math.abs.name, Cond.static Lib.Math.abs.name, Cond.initialized "java/lang/Math", Cond.code Lib.Math.abs.name Lib.Math.abs.code 1 (some .int), Cond.methodLink RX2 55 yX2_keyOf, Cond.static yX2_keyOf, Cond.code yX2_keyOf cX2_keyOf 1 (some .int)]
def wsX2_majorTold : List Cond := .code yX2_majorTold cX2_majorTold 3 (some .int) :: ((wsX2_majorTold_r1 ++ wsX2_majorTold_r2) ++ wsX20)
def wsX2_major_r1 : List Cond := [Cond.fieldLink RX2 26 "FifthBeatsModel" "thrown" "I", Cond.methodLink RX2 74 yX2_isOne, Cond.static yX2_isOne, Cond.initialized RX2, Cond.code yX2_isOne cX2_isOne 1 (some .boolean), Cond.methodLink RX2 29 yX2_isIn, Cond.static yX2_isIn, Cond.code yX2_isIn cX2_isIn 3 (some .boolean), Cond.methodLink RX2 106 yX2_majorTold, Cond.instanceMethod yX2_majorTold, Cond.selects RX2 yX2_majorTold yX2_majorTold, Cond.code yX2_majorTold cX2_majorTold 3 (some .int), Cond.methodLink RX2 65 yX2_majorOff, Cond.instanceMethod yX2_majorOff, Cond.selects RX2 yX2_majorOff yX2_majorOff, Cond.code yX2_majorOff cX2_majorOff 2 (some .int), Cond.methodLink RX2 49 yX2_narrow, Cond.instanceMethod yX2_narrow, Cond.selects RX2 yX2_narrow yX2_narrow, Cond.code yX2_narrow cX2_narrow 5 (some .int), Cond.methodLink RX2 42 yX2_offOf, Cond.instanceMethod yX2_offOf, Cond.selects RX2 yX2_offOf yX2_offOf, Cond.code yX2_offOf cX2_offOf 2 (some .int)]
def wsX2_major_r2 : List Cond := [Cond.fieldLink RX2 23 "FifthBeatsModel" "off" "[I", Cond.methodLink RX2 46 yX2_planOf, Cond.instanceMethod yX2_planOf, Cond.selects RX2 yX2_planOf yX2_planOf, Cond.code yX2_planOf cX2_planOf 5 (some .int), Cond.fieldLink RX2 7 "FifthBeatsModel" "wolf" "I", Cond.fieldLink RX2 13 "FifthBeatsModel" "plan" "[I", Cond.methodLink RX2 61 yX2_beats, Cond.static yX2_beats, Cond.code yX2_beats cX2_beats 3 (some .int), Cond.fieldLink RX2 52 "FifthBeatsModel" "SWINGS" "[I", Cond.methodLink RX2 58 Lib.Math.abs.name, Cond.static Lib.Math.abs.name, Cond.initialized "java/lang/Math", Cond.code Lib.Math.abs.name Lib.Math.abs.code 1 (some .int), Cond.methodLink RX2 55 yX2_keyOf, Cond.static yX2_keyOf, Cond.code yX2_keyOf cX2_keyOf 1 (some .int), Cond.methodLink RX2 78 yX2_no, Cond.instanceMethod yX2_no, Cond.selects RX2 yX2_no yX2_no, Cond.code yX2_no cX2_no 2 (some .int)]
def wsX2_major : List Cond := .code yX2_major cX2_major 3 (some .int) :: ((wsX2_major_r1 ++ wsX2_major_r2) ++ wsX20)
def wsX2_minorTold : List Cond := .code yX2_minorTold cX2_minorTold 3 (some .int) :: ([.methodLink RX2 109 yX2_minorOff, .instanceMethod yX2_minorOff, .selects RX2 yX2_minorOff yX2_minorOff, .initialized RX2, .code yX2_minorOff cX2_minorOff 2 (some .int), .methodLink RX2 49 yX2_narrow, .instanceMethod yX2_narrow, .selects RX2 yX2_narrow yX2_narrow, .code yX2_narrow cX2_narrow 5 (some .int), .methodLink RX2 42 yX2_offOf, .instanceMethod yX2_offOf, .selects RX2 yX2_offOf yX2_offOf, .code yX2_offOf cX2_offOf 2 (some .int), .fieldLink RX2 23 "FifthBeatsModel" "off" "[I", .methodLink RX2 46 yX2_planOf, .instanceMethod yX2_planOf, .selects RX2 yX2_planOf yX2_planOf, .code yX2_planOf cX2_planOf 5 (some .int), .fieldLink RX2 7 "FifthBeatsModel" "wolf" "I", .fieldLink RX2 13 "FifthBeatsModel" "plan" "[I"] ++ wsX20)
def wsX2_minor_r1 : List Cond := [Cond.fieldLink RX2 26 "FifthBeatsModel" "thrown" "I", Cond.methodLink RX2 74 yX2_isOne, Cond.static yX2_isOne, Cond.initialized RX2, Cond.code yX2_isOne cX2_isOne 1 (some .boolean), Cond.methodLink RX2 29 yX2_isIn, Cond.static yX2_isIn, Cond.code yX2_isIn cX2_isIn 3 (some .boolean), Cond.methodLink RX2 112 yX2_minorTold, Cond.instanceMethod yX2_minorTold, Cond.selects RX2 yX2_minorTold yX2_minorTold, Cond.code yX2_minorTold cX2_minorTold 3 (some .int), Cond.methodLink RX2 109 yX2_minorOff, Cond.instanceMethod yX2_minorOff, Cond.selects RX2 yX2_minorOff yX2_minorOff, Cond.code yX2_minorOff cX2_minorOff 2 (some .int), Cond.methodLink RX2 49 yX2_narrow, Cond.instanceMethod yX2_narrow, Cond.selects RX2 yX2_narrow yX2_narrow, Cond.code yX2_narrow cX2_narrow 5 (some .int), Cond.methodLink RX2 42 yX2_offOf, Cond.instanceMethod yX2_offOf, Cond.selects RX2 yX2_offOf yX2_offOf, Cond.code yX2_offOf cX2_offOf 2 (some .int)]
def wsX2_minor_r2 : List Cond := [Cond.fieldLink RX2 23 "FifthBeatsModel" "off" "[I", Cond.methodLink RX2 46 yX2_planOf, Cond.instanceMethod yX2_planOf, Cond.selects RX2 yX2_planOf yX2_planOf, Cond.code yX2_planOf cX2_planOf 5 (some .int), Cond.fieldLink RX2 7 "FifthBeatsModel" "wolf" "I", Cond.fieldLink RX2 13 "FifthBeatsModel" "plan" "[I", Cond.methodLink RX2 78 yX2_no, Cond.instanceMethod yX2_no, Cond.selects RX2 yX2_no yX2_no, Cond.code yX2_no cX2_no 2 (some .int)]
def wsX2_minor : List Cond := .code yX2_minor cX2_minor 3 (some .int) :: ((wsX2_minor_r1 ++ wsX2_minor_r2) ++ wsX20)
def wsX2_noteTold_r1 : List Cond := [Cond.fieldLink RX2 23 "FifthBeatsModel" "off" "[I", Cond.fieldLink RX2 17 "FifthBeatsModel" "drift" "[I", Cond.fieldLink RX2 52 "FifthBeatsModel" "SWINGS" "[I", Cond.methodLink RX2 55 yX2_keyOf, Cond.static yX2_keyOf, Cond.initialized RX2, Cond.code yX2_keyOf cX2_keyOf 1 (some .int), Cond.methodLink RX2 49 yX2_narrow, Cond.instanceMethod yX2_narrow, Cond.selects RX2 yX2_narrow yX2_narrow, Cond.code yX2_narrow cX2_narrow 5 (some .int), Cond.methodLink RX2 42 yX2_offOf, Cond.instanceMethod yX2_offOf, Cond.selects RX2 yX2_offOf yX2_offOf, Cond.code yX2_offOf cX2_offOf 2 (some .int), Cond.methodLink RX2 46 yX2_planOf, Cond.instanceMethod yX2_planOf, Cond.selects RX2 yX2_planOf yX2_planOf, Cond.code yX2_planOf cX2_planOf 5 (some .int), Cond.fieldLink RX2 7 "FifthBeatsModel" "wolf" "I", Cond.fieldLink RX2 13 "FifthBeatsModel" "plan" "[I", Cond.methodLink RX2 115 yJ9_floorMod_7cf53, Cond.static yJ9_floorMod_7cf53, Cond.initialized RJ9]
def wsX2_noteTold_r2 : List Cond := [Cond.code yJ9_floorMod_7cf53 cJ9_floorMod_7cf53 3 (some .int)]
def wsX2_noteTold : List Cond := .code yX2_noteTold cX2_noteTold 3 (some .int) :: ((wsX2_noteTold_r1 ++ wsX2_noteTold_r2) ++ wsX20)
def wsX2_note_r1 : List Cond := [Cond.fieldLink RX2 26 "FifthBeatsModel" "thrown" "I", Cond.methodLink RX2 74 yX2_isOne, Cond.static yX2_isOne, Cond.initialized RX2, Cond.code yX2_isOne cX2_isOne 1 (some .boolean), Cond.methodLink RX2 29 yX2_isIn, Cond.static yX2_isIn, Cond.code yX2_isIn cX2_isIn 3 (some .boolean), Cond.methodLink RX2 118 yX2_noteTold, Cond.instanceMethod yX2_noteTold, Cond.selects RX2 yX2_noteTold yX2_noteTold, Cond.code yX2_noteTold cX2_noteTold 3 (some .int), Cond.fieldLink RX2 23 "FifthBeatsModel" "off" "[I", Cond.fieldLink RX2 17 "FifthBeatsModel" "drift" "[I", Cond.fieldLink RX2 52 "FifthBeatsModel" "SWINGS" "[I", Cond.methodLink RX2 55 yX2_keyOf, Cond.static yX2_keyOf, Cond.code yX2_keyOf cX2_keyOf 1 (some .int), Cond.methodLink RX2 49 yX2_narrow, Cond.instanceMethod yX2_narrow, Cond.selects RX2 yX2_narrow yX2_narrow, Cond.code yX2_narrow cX2_narrow 5 (some .int), Cond.methodLink RX2 42 yX2_offOf, Cond.instanceMethod yX2_offOf]
def wsX2_note_r2 : List Cond := [Cond.selects RX2 yX2_offOf yX2_offOf, Cond.code yX2_offOf cX2_offOf 2 (some .int), Cond.methodLink RX2 46 yX2_planOf, Cond.instanceMethod yX2_planOf, Cond.selects RX2 yX2_planOf yX2_planOf, Cond.code yX2_planOf cX2_planOf 5 (some .int), Cond.fieldLink RX2 7 "FifthBeatsModel" "wolf" "I", Cond.fieldLink RX2 13 "FifthBeatsModel" "plan" "[I", Cond.methodLink RX2 115 yJ9_floorMod_7cf53, Cond.static yJ9_floorMod_7cf53, Cond.initialized RJ9, Cond.code yJ9_floorMod_7cf53 cJ9_floorMod_7cf53 3 (some .int), Cond.methodLink RX2 78 yX2_no, Cond.instanceMethod yX2_no, Cond.selects RX2 yX2_no yX2_no, Cond.code yX2_no cX2_no 2 (some .int)]
def wsX2_note : List Cond := .code yX2_note cX2_note 3 (some .int) :: ((wsX2_note_r1 ++ wsX2_note_r2) ++ wsX20)
def wsX2_keyTold_r1 : List Cond := [Cond.fieldLink RX2 20 "FifthBeatsModel" "often" "[I", Cond.methodLink RX2 68 yX2_sour, Cond.instanceMethod yX2_sour, Cond.selects RX2 yX2_sour yX2_sour, Cond.initialized RX2, Cond.code yX2_sour cX2_sour 2 (some .int), Cond.methodLink RX2 58 Lib.Math.abs.name, Cond.static Lib.Math.abs.name, Cond.initialized "java/lang/Math", Cond.code Lib.Math.abs.name Lib.Math.abs.code 1 (some .int), Cond.methodLink RX2 65 yX2_majorOff, Cond.instanceMethod yX2_majorOff, Cond.selects RX2 yX2_majorOff yX2_majorOff, Cond.code yX2_majorOff cX2_majorOff 2 (some .int), Cond.methodLink RX2 49 yX2_narrow, Cond.instanceMethod yX2_narrow, Cond.selects RX2 yX2_narrow yX2_narrow, Cond.code yX2_narrow cX2_narrow 5 (some .int), Cond.methodLink RX2 42 yX2_offOf, Cond.instanceMethod yX2_offOf, Cond.selects RX2 yX2_offOf yX2_offOf, Cond.code yX2_offOf cX2_offOf 2 (some .int), Cond.fieldLink RX2 23 "FifthBeatsModel" "off" "[I", Cond.methodLink RX2 46 yX2_planOf]
def wsX2_keyTold_r2 : List Cond := [Cond.instanceMethod yX2_planOf, Cond.selects RX2 yX2_planOf yX2_planOf, Cond.code yX2_planOf cX2_planOf 5 (some .int), Cond.fieldLink RX2 7 "FifthBeatsModel" "wolf" "I", Cond.fieldLink RX2 13 "FifthBeatsModel" "plan" "[I", Cond.methodLink RX2 121 yX2_place, Cond.instanceMethod yX2_place, Cond.selects RX2 yX2_place yX2_place, Cond.code yX2_place cX2_place 4 (some .int)]
def wsX2_keyTold : List Cond := .code yX2_keyTold cX2_keyTold 3 (some .int) :: ((wsX2_keyTold_r1 ++ wsX2_keyTold_r2) ++ wsX20)
def wsX2_key_r1 : List Cond := [Cond.fieldLink RX2 26 "FifthBeatsModel" "thrown" "I", Cond.methodLink RX2 74 yX2_isOne, Cond.static yX2_isOne, Cond.initialized RX2, Cond.code yX2_isOne cX2_isOne 1 (some .boolean), Cond.methodLink RX2 29 yX2_isIn, Cond.static yX2_isIn, Cond.code yX2_isIn cX2_isIn 3 (some .boolean), Cond.methodLink RX2 124 yX2_keyTold, Cond.instanceMethod yX2_keyTold, Cond.selects RX2 yX2_keyTold yX2_keyTold, Cond.code yX2_keyTold cX2_keyTold 3 (some .int), Cond.fieldLink RX2 20 "FifthBeatsModel" "often" "[I", Cond.methodLink RX2 68 yX2_sour, Cond.instanceMethod yX2_sour, Cond.selects RX2 yX2_sour yX2_sour, Cond.code yX2_sour cX2_sour 2 (some .int), Cond.methodLink RX2 58 Lib.Math.abs.name, Cond.static Lib.Math.abs.name, Cond.initialized "java/lang/Math", Cond.code Lib.Math.abs.name Lib.Math.abs.code 1 (some .int), Cond.methodLink RX2 65 yX2_majorOff, Cond.instanceMethod yX2_majorOff, Cond.selects RX2 yX2_majorOff yX2_majorOff]
def wsX2_key_r2 : List Cond := [Cond.code yX2_majorOff cX2_majorOff 2 (some .int), Cond.methodLink RX2 49 yX2_narrow, Cond.instanceMethod yX2_narrow, Cond.selects RX2 yX2_narrow yX2_narrow, Cond.code yX2_narrow cX2_narrow 5 (some .int), Cond.methodLink RX2 42 yX2_offOf, Cond.instanceMethod yX2_offOf, Cond.selects RX2 yX2_offOf yX2_offOf, Cond.code yX2_offOf cX2_offOf 2 (some .int), Cond.fieldLink RX2 23 "FifthBeatsModel" "off" "[I", Cond.methodLink RX2 46 yX2_planOf, Cond.instanceMethod yX2_planOf, Cond.selects RX2 yX2_planOf yX2_planOf, Cond.code yX2_planOf cX2_planOf 5 (some .int), Cond.fieldLink RX2 7 "FifthBeatsModel" "wolf" "I", Cond.fieldLink RX2 13 "FifthBeatsModel" "plan" "[I", Cond.methodLink RX2 121 yX2_place, Cond.instanceMethod yX2_place, Cond.selects RX2 yX2_place yX2_place, Cond.code yX2_place cX2_place 4 (some .int), Cond.methodLink RX2 78 yX2_no, Cond.instanceMethod yX2_no, Cond.selects RX2 yX2_no yX2_no, Cond.code yX2_no cX2_no 2 (some .int)]
def wsX2_key : List Cond := .code yX2_key cX2_key 3 (some .int) :: ((wsX2_key_r1 ++ wsX2_key_r2) ++ wsX20)
def wsX2_counted_r1 : List Cond := [Cond.fieldLink RX2 97 "FifthBeatsModel" "day" "I", Cond.fieldLink RX2 7 "FifthBeatsModel" "wolf" "I", Cond.methodLink RX2 58 Lib.Math.abs.name, Cond.static Lib.Math.abs.name, Cond.initialized "java/lang/Math", Cond.code Lib.Math.abs.name Lib.Math.abs.code 1 (some .int), Cond.methodLink RX2 39 Lib.Math.max.name, Cond.static Lib.Math.max.name, Cond.code Lib.Math.max.name Lib.Math.max.code 2 (some .int), Cond.fieldLink RX2 23 "FifthBeatsModel" "off" "[I", Cond.methodLink RX2 127 yX2_costs, Cond.instanceMethod yX2_costs, Cond.selects RX2 yX2_costs yX2_costs, Cond.initialized RX2, Cond.code yX2_costs cX2_costs 3 (some .int), Cond.fieldLink RX2 20 "FifthBeatsModel" "often" "[I", Cond.methodLink RX2 68 yX2_sour, Cond.instanceMethod yX2_sour, Cond.selects RX2 yX2_sour yX2_sour, Cond.code yX2_sour cX2_sour 2 (some .int), Cond.methodLink RX2 65 yX2_majorOff, Cond.instanceMethod yX2_majorOff, Cond.selects RX2 yX2_majorOff yX2_majorOff, Cond.code yX2_majorOff cX2_majorOff 2 (some .int)]
def wsX2_counted_r2 : List Cond := [Cond.methodLink RX2 49 yX2_narrow, Cond.instanceMethod yX2_narrow, Cond.selects RX2 yX2_narrow yX2_narrow, Cond.code yX2_narrow cX2_narrow 5 (some .int), Cond.methodLink RX2 42 yX2_offOf, Cond.instanceMethod yX2_offOf, Cond.selects RX2 yX2_offOf yX2_offOf, Cond.code yX2_offOf cX2_offOf 2 (some .int), Cond.methodLink RX2 46 yX2_planOf, Cond.instanceMethod yX2_planOf, Cond.selects RX2 yX2_planOf yX2_planOf, Cond.code yX2_planOf cX2_planOf 5 (some .int), Cond.fieldLink RX2 13 "FifthBeatsModel" "plan" "[I", Cond.methodLink RX2 131 yX2_fastest, Cond.instanceMethod yX2_fastest, Cond.selects RX2 yX2_fastest yX2_fastest, Cond.code yX2_fastest cX2_fastest 3 (some .int), Cond.methodLink RX2 71 yX2_fifthBeats, Cond.instanceMethod yX2_fifthBeats, Cond.selects RX2 yX2_fifthBeats yX2_fifthBeats, Cond.code yX2_fifthBeats cX2_fifthBeats 2 (some .int), Cond.methodLink RX2 61 yX2_beats, Cond.static yX2_beats, Cond.code yX2_beats cX2_beats 3 (some .int)]
def wsX2_counted_r3 : List Cond := [Cond.fieldLink RX2 52 "FifthBeatsModel" "SWINGS" "[I", Cond.methodLink RX2 55 yX2_keyOf, Cond.static yX2_keyOf, Cond.code yX2_keyOf cX2_keyOf 1 (some .int)]
def wsX2_counted : List Cond := .code yX2_counted cX2_counted 7 (some .int) :: ((wsX2_counted_r1 ++ (wsX2_counted_r2 ++ wsX2_counted_r3)) ++ wsX20)
def wsX2_count_r1 : List Cond := [Cond.fieldLink RX2 26 "FifthBeatsModel" "thrown" "I", Cond.methodLink RX2 29 yX2_isIn, Cond.static yX2_isIn, Cond.initialized RX2, Cond.code yX2_isIn cX2_isIn 3 (some .boolean), Cond.methodLink RX2 134 yX2_counted, Cond.instanceMethod yX2_counted, Cond.selects RX2 yX2_counted yX2_counted, Cond.code yX2_counted cX2_counted 7 (some .int), Cond.fieldLink RX2 97 "FifthBeatsModel" "day" "I", Cond.fieldLink RX2 7 "FifthBeatsModel" "wolf" "I", Cond.methodLink RX2 58 Lib.Math.abs.name, Cond.static Lib.Math.abs.name, Cond.initialized "java/lang/Math", Cond.code Lib.Math.abs.name Lib.Math.abs.code 1 (some .int), Cond.methodLink RX2 39 Lib.Math.max.name, Cond.static Lib.Math.max.name, Cond.code Lib.Math.max.name Lib.Math.max.code 2 (some .int), Cond.fieldLink RX2 23 "FifthBeatsModel" "off" "[I", Cond.methodLink RX2 127 yX2_costs, Cond.instanceMethod yX2_costs, Cond.selects RX2 yX2_costs yX2_costs, Cond.code yX2_costs cX2_costs 3 (some .int), Cond.fieldLink RX2 20 "FifthBeatsModel" "often" "[I"]
def wsX2_count_r2 : List Cond := [Cond.methodLink RX2 68 yX2_sour, Cond.instanceMethod yX2_sour, Cond.selects RX2 yX2_sour yX2_sour, Cond.code yX2_sour cX2_sour 2 (some .int), Cond.methodLink RX2 65 yX2_majorOff, Cond.instanceMethod yX2_majorOff, Cond.selects RX2 yX2_majorOff yX2_majorOff, Cond.code yX2_majorOff cX2_majorOff 2 (some .int), Cond.methodLink RX2 49 yX2_narrow, Cond.instanceMethod yX2_narrow, Cond.selects RX2 yX2_narrow yX2_narrow, Cond.code yX2_narrow cX2_narrow 5 (some .int), Cond.methodLink RX2 42 yX2_offOf, Cond.instanceMethod yX2_offOf, Cond.selects RX2 yX2_offOf yX2_offOf, Cond.code yX2_offOf cX2_offOf 2 (some .int), Cond.methodLink RX2 46 yX2_planOf, Cond.instanceMethod yX2_planOf, Cond.selects RX2 yX2_planOf yX2_planOf, Cond.code yX2_planOf cX2_planOf 5 (some .int), Cond.fieldLink RX2 13 "FifthBeatsModel" "plan" "[I", Cond.methodLink RX2 131 yX2_fastest, Cond.instanceMethod yX2_fastest, Cond.selects RX2 yX2_fastest yX2_fastest]
def wsX2_count_r3 : List Cond := [Cond.code yX2_fastest cX2_fastest 3 (some .int), Cond.methodLink RX2 71 yX2_fifthBeats, Cond.instanceMethod yX2_fifthBeats, Cond.selects RX2 yX2_fifthBeats yX2_fifthBeats, Cond.code yX2_fifthBeats cX2_fifthBeats 2 (some .int), Cond.methodLink RX2 61 yX2_beats, Cond.static yX2_beats, Cond.code yX2_beats cX2_beats 3 (some .int), Cond.fieldLink RX2 52 "FifthBeatsModel" "SWINGS" "[I", Cond.methodLink RX2 55 yX2_keyOf, Cond.static yX2_keyOf, Cond.code yX2_keyOf cX2_keyOf 1 (some .int), Cond.methodLink RX2 78 yX2_no, Cond.instanceMethod yX2_no, Cond.selects RX2 yX2_no yX2_no, Cond.code yX2_no cX2_no 2 (some .int)]
def wsX2_count : List Cond := .code yX2_count cX2_count 2 (some .int) :: ((wsX2_count_r1 ++ (wsX2_count_r2 ++ wsX2_count_r3)) ++ wsX20)
def wsX2_copyOf : List Cond := .code yX2_copyOf cX2_copyOf 3 (some (.array .int)) :: ([.arrayClass .int, .methodLink RX2 137 arraycopyName, .native arraycopyName, .static arraycopyName, .initialized "java/lang/System"])
def wsX2_foresee_r1 : List Cond := [Cond.fieldLink RX2 26 "FifthBeatsModel" "thrown" "I", Cond.fieldLink RX2 23 "FifthBeatsModel" "off" "[I", Cond.fieldLink RX2 97 "FifthBeatsModel" "day" "I", Cond.methodLink RX2 29 yX2_isIn, Cond.static yX2_isIn, Cond.initialized RX2, Cond.code yX2_isIn cX2_isIn 3 (some .boolean), Cond.methodLink RX2 78 yX2_no, Cond.instanceMethod yX2_no, Cond.selects RX2 yX2_no yX2_no, Cond.code yX2_no cX2_no 2 (some .int), Cond.methodLink RX2 143 yX2_copyOf, Cond.instanceMethod yX2_copyOf, Cond.selects RX2 yX2_copyOf yX2_copyOf, Cond.code yX2_copyOf cX2_copyOf 3 (some (.array .int)), Cond.arrayClass .int, Cond.methodLink RX2 137 arraycopyName, Cond.native arraycopyName, Cond.static arraycopyName, Cond.initialized "java/lang/System", Cond.methodLink RX2 100 yX2_pass, Cond.instanceMethod yX2_pass, Cond.selects RX2 yX2_pass yX2_pass, Cond.code yX2_pass cX2_pass 2 none]
def wsX2_foresee_r2 : List Cond := [Cond.fieldLink RX2 17 "FifthBeatsModel" "drift" "[I", Cond.methodLink RX2 94 yX2_held, Cond.static yX2_held, Cond.code yX2_held cX2_held 1 (some .int), Cond.methodLink RX2 33 Lib.Math.min.name, Cond.static Lib.Math.min.name, Cond.initialized "java/lang/Math", Cond.code Lib.Math.min.name Lib.Math.min.code 2 (some .int), Cond.methodLink RX2 39 Lib.Math.max.name, Cond.static Lib.Math.max.name, Cond.code Lib.Math.max.name Lib.Math.max.code 2 (some .int), Cond.methodLink RX2 134 yX2_counted, Cond.instanceMethod yX2_counted, Cond.selects RX2 yX2_counted yX2_counted, Cond.code yX2_counted cX2_counted 7 (some .int), Cond.fieldLink RX2 7 "FifthBeatsModel" "wolf" "I", Cond.methodLink RX2 58 Lib.Math.abs.name, Cond.static Lib.Math.abs.name, Cond.code Lib.Math.abs.name Lib.Math.abs.code 1 (some .int), Cond.methodLink RX2 127 yX2_costs, Cond.instanceMethod yX2_costs, Cond.selects RX2 yX2_costs yX2_costs, Cond.code yX2_costs cX2_costs 3 (some .int), Cond.fieldLink RX2 20 "FifthBeatsModel" "often" "[I"]
def wsX2_foresee_r3 : List Cond := [Cond.methodLink RX2 68 yX2_sour, Cond.instanceMethod yX2_sour, Cond.selects RX2 yX2_sour yX2_sour, Cond.code yX2_sour cX2_sour 2 (some .int), Cond.methodLink RX2 65 yX2_majorOff, Cond.instanceMethod yX2_majorOff, Cond.selects RX2 yX2_majorOff yX2_majorOff, Cond.code yX2_majorOff cX2_majorOff 2 (some .int), Cond.methodLink RX2 49 yX2_narrow, Cond.instanceMethod yX2_narrow, Cond.selects RX2 yX2_narrow yX2_narrow, Cond.code yX2_narrow cX2_narrow 5 (some .int), Cond.methodLink RX2 42 yX2_offOf, Cond.instanceMethod yX2_offOf, Cond.selects RX2 yX2_offOf yX2_offOf, Cond.code yX2_offOf cX2_offOf 2 (some .int), Cond.methodLink RX2 46 yX2_planOf, Cond.instanceMethod yX2_planOf, Cond.selects RX2 yX2_planOf yX2_planOf, Cond.code yX2_planOf cX2_planOf 5 (some .int), Cond.fieldLink RX2 13 "FifthBeatsModel" "plan" "[I", Cond.methodLink RX2 131 yX2_fastest, Cond.instanceMethod yX2_fastest, Cond.selects RX2 yX2_fastest yX2_fastest]
def wsX2_foresee_r4 : List Cond := [Cond.code yX2_fastest cX2_fastest 3 (some .int), Cond.methodLink RX2 71 yX2_fifthBeats, Cond.instanceMethod yX2_fifthBeats, Cond.selects RX2 yX2_fifthBeats yX2_fifthBeats, Cond.code yX2_fifthBeats cX2_fifthBeats 2 (some .int), Cond.methodLink RX2 61 yX2_beats, Cond.static yX2_beats, Cond.code yX2_beats cX2_beats 3 (some .int), Cond.fieldLink RX2 52 "FifthBeatsModel" "SWINGS" "[I", Cond.methodLink RX2 55 yX2_keyOf, Cond.static yX2_keyOf, Cond.code yX2_keyOf cX2_keyOf 1 (some .int)]
def wsX2_foresee : List Cond := .code yX2_foresee cX2_foresee 6 (some .int) :: ((wsX2_foresee_r1 ++ (wsX2_foresee_r2 ++ (wsX2_foresee_r3 ++ wsX2_foresee_r4))) ++ wsX20)
def wsX2_until_r1 : List Cond := [Cond.fieldLink RX2 26 "FifthBeatsModel" "thrown" "I", Cond.fieldLink RX2 23 "FifthBeatsModel" "off" "[I", Cond.fieldLink RX2 97 "FifthBeatsModel" "day" "I", Cond.methodLink RX2 29 yX2_isIn, Cond.static yX2_isIn, Cond.initialized RX2, Cond.code yX2_isIn cX2_isIn 3 (some .boolean), Cond.methodLink RX2 78 yX2_no, Cond.instanceMethod yX2_no, Cond.selects RX2 yX2_no yX2_no, Cond.code yX2_no cX2_no 2 (some .int), Cond.methodLink RX2 143 yX2_copyOf, Cond.instanceMethod yX2_copyOf, Cond.selects RX2 yX2_copyOf yX2_copyOf, Cond.code yX2_copyOf cX2_copyOf 3 (some (.array .int)), Cond.arrayClass .int, Cond.methodLink RX2 137 arraycopyName, Cond.native arraycopyName, Cond.static arraycopyName, Cond.initialized "java/lang/System", Cond.methodLink RX2 131 yX2_fastest, Cond.instanceMethod yX2_fastest, Cond.selects RX2 yX2_fastest yX2_fastest, Cond.code yX2_fastest cX2_fastest 3 (some .int)]
def wsX2_until_r2 : List Cond := [Cond.fieldLink RX2 7 "FifthBeatsModel" "wolf" "I", Cond.methodLink RX2 39 Lib.Math.max.name, Cond.static Lib.Math.max.name, Cond.initialized "java/lang/Math", Cond.code Lib.Math.max.name Lib.Math.max.code 2 (some .int), Cond.methodLink RX2 71 yX2_fifthBeats, Cond.instanceMethod yX2_fifthBeats, Cond.selects RX2 yX2_fifthBeats yX2_fifthBeats, Cond.code yX2_fifthBeats cX2_fifthBeats 2 (some .int), Cond.methodLink RX2 49 yX2_narrow, Cond.instanceMethod yX2_narrow, Cond.selects RX2 yX2_narrow yX2_narrow, Cond.code yX2_narrow cX2_narrow 5 (some .int), Cond.methodLink RX2 42 yX2_offOf, Cond.instanceMethod yX2_offOf, Cond.selects RX2 yX2_offOf yX2_offOf, Cond.code yX2_offOf cX2_offOf 2 (some .int), Cond.methodLink RX2 46 yX2_planOf, Cond.instanceMethod yX2_planOf, Cond.selects RX2 yX2_planOf yX2_planOf, Cond.code yX2_planOf cX2_planOf 5 (some .int), Cond.fieldLink RX2 13 "FifthBeatsModel" "plan" "[I", Cond.methodLink RX2 61 yX2_beats, Cond.static yX2_beats]
def wsX2_until_r3 : List Cond := [Cond.code yX2_beats cX2_beats 3 (some .int), Cond.fieldLink RX2 52 "FifthBeatsModel" "SWINGS" "[I", Cond.methodLink RX2 58 Lib.Math.abs.name, Cond.static Lib.Math.abs.name, Cond.code Lib.Math.abs.name Lib.Math.abs.code 1 (some .int), Cond.methodLink RX2 55 yX2_keyOf, Cond.static yX2_keyOf, Cond.code yX2_keyOf cX2_keyOf 1 (some .int), Cond.methodLink RX2 100 yX2_pass, Cond.instanceMethod yX2_pass, Cond.selects RX2 yX2_pass yX2_pass, Cond.code yX2_pass cX2_pass 2 none, Cond.fieldLink RX2 17 "FifthBeatsModel" "drift" "[I", Cond.methodLink RX2 94 yX2_held, Cond.static yX2_held, Cond.code yX2_held cX2_held 1 (some .int), Cond.methodLink RX2 33 Lib.Math.min.name, Cond.static Lib.Math.min.name, Cond.code Lib.Math.min.name Lib.Math.min.code 2 (some .int)]
def wsX2_until : List Cond := .code yX2_until cX2_until 5 (some .int) :: ((wsX2_until_r1 ++ (wsX2_until_r2 ++ wsX2_until_r3)) ++ wsX20)
def wsX2_advise_r1 : List Cond := [Cond.fieldLink RX2 26 "FifthBeatsModel" "thrown" "I", Cond.fieldLink RX2 7 "FifthBeatsModel" "wolf" "I", Cond.methodLink RX2 81 yX2_shiftTo, Cond.instanceMethod yX2_shiftTo, Cond.selects RX2 yX2_shiftTo yX2_shiftTo, Cond.initialized RX2, Cond.code yX2_shiftTo cX2_shiftTo 2 none, Cond.fieldLink RX2 13 "FifthBeatsModel" "plan" "[I", Cond.methodLink RX2 46 yX2_planOf, Cond.instanceMethod yX2_planOf, Cond.selects RX2 yX2_planOf yX2_planOf, Cond.code yX2_planOf cX2_planOf 5 (some .int), Cond.methodLink RX2 127 yX2_costs, Cond.instanceMethod yX2_costs, Cond.selects RX2 yX2_costs yX2_costs, Cond.code yX2_costs cX2_costs 3 (some .int), Cond.fieldLink RX2 20 "FifthBeatsModel" "often" "[I", Cond.methodLink RX2 68 yX2_sour, Cond.instanceMethod yX2_sour, Cond.selects RX2 yX2_sour yX2_sour, Cond.code yX2_sour cX2_sour 2 (some .int), Cond.methodLink RX2 58 Lib.Math.abs.name, Cond.static Lib.Math.abs.name, Cond.initialized "java/lang/Math"]
def wsX2_advise_r2 : List Cond := [Cond.code Lib.Math.abs.name Lib.Math.abs.code 1 (some .int), Cond.methodLink RX2 65 yX2_majorOff, Cond.instanceMethod yX2_majorOff, Cond.selects RX2 yX2_majorOff yX2_majorOff, Cond.code yX2_majorOff cX2_majorOff 2 (some .int), Cond.methodLink RX2 49 yX2_narrow, Cond.instanceMethod yX2_narrow, Cond.selects RX2 yX2_narrow yX2_narrow, Cond.code yX2_narrow cX2_narrow 5 (some .int), Cond.methodLink RX2 42 yX2_offOf, Cond.instanceMethod yX2_offOf, Cond.selects RX2 yX2_offOf yX2_offOf, Cond.code yX2_offOf cX2_offOf 2 (some .int), Cond.fieldLink RX2 23 "FifthBeatsModel" "off" "[I"]
def wsX2_advise : List Cond := .code yX2_advise cX2_advise 6 (some .int) :: ((wsX2_advise_r1 ++ wsX2_advise_r2) ++ wsX20)
def wsX2_temper_r1 : List Cond := [Cond.fieldLink RX2 26 "FifthBeatsModel" "thrown" "I", Cond.fieldLink RX2 7 "FifthBeatsModel" "wolf" "I", Cond.fieldLink RX2 13 "FifthBeatsModel" "plan" "[I", Cond.methodLink RX2 74 yX2_isOne, Cond.static yX2_isOne, Cond.initialized RX2, Cond.code yX2_isOne cX2_isOne 1 (some .boolean), Cond.methodLink RX2 29 yX2_isIn, Cond.static yX2_isIn, Cond.code yX2_isIn cX2_isIn 3 (some .boolean), Cond.methodLink RX2 78 yX2_no, Cond.instanceMethod yX2_no, Cond.selects RX2 yX2_no yX2_no, Cond.code yX2_no cX2_no 2 (some .int), Cond.methodLink RX2 127 yX2_costs, Cond.instanceMethod yX2_costs, Cond.selects RX2 yX2_costs yX2_costs, Cond.code yX2_costs cX2_costs 3 (some .int), Cond.fieldLink RX2 20 "FifthBeatsModel" "often" "[I", Cond.methodLink RX2 68 yX2_sour, Cond.instanceMethod yX2_sour, Cond.selects RX2 yX2_sour yX2_sour, Cond.code yX2_sour cX2_sour 2 (some .int), Cond.methodLink RX2 58 Lib.Math.abs.name]
def wsX2_temper_r2 : List Cond := [Cond.static Lib.Math.abs.name, Cond.initialized "java/lang/Math", Cond.code Lib.Math.abs.name Lib.Math.abs.code 1 (some .int), Cond.methodLink RX2 65 yX2_majorOff, Cond.instanceMethod yX2_majorOff, Cond.selects RX2 yX2_majorOff yX2_majorOff, Cond.code yX2_majorOff cX2_majorOff 2 (some .int), Cond.methodLink RX2 49 yX2_narrow, Cond.instanceMethod yX2_narrow, Cond.selects RX2 yX2_narrow yX2_narrow, Cond.code yX2_narrow cX2_narrow 5 (some .int), Cond.methodLink RX2 42 yX2_offOf, Cond.instanceMethod yX2_offOf, Cond.selects RX2 yX2_offOf yX2_offOf, Cond.code yX2_offOf cX2_offOf 2 (some .int), Cond.fieldLink RX2 23 "FifthBeatsModel" "off" "[I", Cond.methodLink RX2 46 yX2_planOf, Cond.instanceMethod yX2_planOf, Cond.selects RX2 yX2_planOf yX2_planOf, Cond.code yX2_planOf cX2_planOf 5 (some .int)]
def wsX2_temper : List Cond := .code yX2_temper cX2_temper 7 (some .int) :: ((wsX2_temper_r1 ++ wsX2_temper_r2) ++ wsX20)
def wsX2_next_r1 : List Cond := [Cond.fieldLink RX2 26 "FifthBeatsModel" "thrown" "I", Cond.fieldLink RX2 23 "FifthBeatsModel" "off" "[I", Cond.methodLink RX2 127 yX2_costs, Cond.instanceMethod yX2_costs, Cond.selects RX2 yX2_costs yX2_costs, Cond.initialized RX2, Cond.code yX2_costs cX2_costs 3 (some .int), Cond.fieldLink RX2 20 "FifthBeatsModel" "often" "[I", Cond.methodLink RX2 68 yX2_sour, Cond.instanceMethod yX2_sour, Cond.selects RX2 yX2_sour yX2_sour, Cond.code yX2_sour cX2_sour 2 (some .int), Cond.methodLink RX2 58 Lib.Math.abs.name, Cond.static Lib.Math.abs.name, Cond.initialized "java/lang/Math", Cond.code Lib.Math.abs.name Lib.Math.abs.code 1 (some .int), Cond.methodLink RX2 65 yX2_majorOff, Cond.instanceMethod yX2_majorOff, Cond.selects RX2 yX2_majorOff yX2_majorOff, Cond.code yX2_majorOff cX2_majorOff 2 (some .int), Cond.methodLink RX2 49 yX2_narrow, Cond.instanceMethod yX2_narrow, Cond.selects RX2 yX2_narrow yX2_narrow, Cond.code yX2_narrow cX2_narrow 5 (some .int)]
def wsX2_next_r2 : List Cond := [Cond.methodLink RX2 42 yX2_offOf, Cond.instanceMethod yX2_offOf, Cond.selects RX2 yX2_offOf yX2_offOf, Cond.code yX2_offOf cX2_offOf 2 (some .int), Cond.methodLink RX2 46 yX2_planOf, Cond.instanceMethod yX2_planOf, Cond.selects RX2 yX2_planOf yX2_planOf, Cond.code yX2_planOf cX2_planOf 5 (some .int), Cond.fieldLink RX2 7 "FifthBeatsModel" "wolf" "I", Cond.fieldLink RX2 13 "FifthBeatsModel" "plan" "[I", Cond.methodLink RX2 88 yX2_canTune, Cond.instanceMethod yX2_canTune, Cond.selects RX2 yX2_canTune yX2_canTune, Cond.code yX2_canTune cX2_canTune 2 (some .boolean), Cond.methodLink RX2 85 yX2_ahead, Cond.static yX2_ahead, Cond.code yX2_ahead cX2_ahead 1 (some .int), Cond.methodLink RX2 91 yX2_tuned, Cond.instanceMethod yX2_tuned, Cond.selects RX2 yX2_tuned yX2_tuned, Cond.code yX2_tuned cX2_tuned 3 (some .int)]
def wsX2_next : List Cond := .code yX2_next cX2_next 6 (some .int) :: ((wsX2_next_r1 ++ wsX2_next_r2) ++ wsX20)
def wsX2_mean_r1 : List Cond := [Cond.fieldLink RX2 26 "FifthBeatsModel" "thrown" "I", Cond.constantDouble RX2 147 (4622945017495814144), Cond.methodLink RX2 68 yX2_sour, Cond.instanceMethod yX2_sour, Cond.selects RX2 yX2_sour yX2_sour, Cond.initialized RX2, Cond.code yX2_sour cX2_sour 2 (some .int), Cond.methodLink RX2 58 Lib.Math.abs.name, Cond.static Lib.Math.abs.name, Cond.initialized "java/lang/Math", Cond.code Lib.Math.abs.name Lib.Math.abs.code 1 (some .int), Cond.methodLink RX2 65 yX2_majorOff, Cond.instanceMethod yX2_majorOff, Cond.selects RX2 yX2_majorOff yX2_majorOff, Cond.code yX2_majorOff cX2_majorOff 2 (some .int), Cond.methodLink RX2 49 yX2_narrow, Cond.instanceMethod yX2_narrow, Cond.selects RX2 yX2_narrow yX2_narrow, Cond.code yX2_narrow cX2_narrow 5 (some .int), Cond.methodLink RX2 42 yX2_offOf, Cond.instanceMethod yX2_offOf, Cond.selects RX2 yX2_offOf yX2_offOf, Cond.code yX2_offOf cX2_offOf 2 (some .int), Cond.fieldLink RX2 23 "FifthBeatsModel" "off" "[I"]
def wsX2_mean_r2 : List Cond := [Cond.methodLink RX2 46 yX2_planOf, Cond.instanceMethod yX2_planOf, Cond.selects RX2 yX2_planOf yX2_planOf, Cond.code yX2_planOf cX2_planOf 5 (some .int), Cond.fieldLink RX2 7 "FifthBeatsModel" "wolf" "I", Cond.fieldLink RX2 13 "FifthBeatsModel" "plan" "[I"]
def wsX2_mean : List Cond := .code yX2_mean cX2_mean 3 (some .double) :: ((wsX2_mean_r1 ++ wsX2_mean_r2) ++ wsX20)
def wsX2_digest_r1 : List Cond := [Cond.fieldLink RX2 26 "FifthBeatsModel" "thrown" "I", Cond.constantLong RX2 149 (1697), Cond.constantLong RX2 151 (31), Cond.methodLink RX2 134 yX2_counted, Cond.instanceMethod yX2_counted, Cond.selects RX2 yX2_counted yX2_counted, Cond.initialized RX2, Cond.code yX2_counted cX2_counted 7 (some .int), Cond.fieldLink RX2 97 "FifthBeatsModel" "day" "I", Cond.fieldLink RX2 7 "FifthBeatsModel" "wolf" "I", Cond.methodLink RX2 58 Lib.Math.abs.name, Cond.static Lib.Math.abs.name, Cond.initialized "java/lang/Math", Cond.code Lib.Math.abs.name Lib.Math.abs.code 1 (some .int), Cond.methodLink RX2 39 Lib.Math.max.name, Cond.static Lib.Math.max.name, Cond.code Lib.Math.max.name Lib.Math.max.code 2 (some .int), Cond.fieldLink RX2 23 "FifthBeatsModel" "off" "[I", Cond.methodLink RX2 127 yX2_costs, Cond.instanceMethod yX2_costs, Cond.selects RX2 yX2_costs yX2_costs, Cond.code yX2_costs cX2_costs 3 (some .int), Cond.fieldLink RX2 20 "FifthBeatsModel" "often" "[I", Cond.methodLink RX2 68 yX2_sour]
def wsX2_digest_r2 : List Cond := [Cond.instanceMethod yX2_sour, Cond.selects RX2 yX2_sour yX2_sour, Cond.code yX2_sour cX2_sour 2 (some .int), Cond.methodLink RX2 65 yX2_majorOff, Cond.instanceMethod yX2_majorOff, Cond.selects RX2 yX2_majorOff yX2_majorOff, Cond.code yX2_majorOff cX2_majorOff 2 (some .int), Cond.methodLink RX2 49 yX2_narrow, Cond.instanceMethod yX2_narrow, Cond.selects RX2 yX2_narrow yX2_narrow, Cond.code yX2_narrow cX2_narrow 5 (some .int), Cond.methodLink RX2 42 yX2_offOf, Cond.instanceMethod yX2_offOf, Cond.selects RX2 yX2_offOf yX2_offOf, Cond.code yX2_offOf cX2_offOf 2 (some .int), Cond.methodLink RX2 46 yX2_planOf, Cond.instanceMethod yX2_planOf, Cond.selects RX2 yX2_planOf yX2_planOf, Cond.code yX2_planOf cX2_planOf 5 (some .int), Cond.fieldLink RX2 13 "FifthBeatsModel" "plan" "[I", Cond.methodLink RX2 131 yX2_fastest, Cond.instanceMethod yX2_fastest, Cond.selects RX2 yX2_fastest yX2_fastest, Cond.code yX2_fastest cX2_fastest 3 (some .int)]
def wsX2_digest_r3 : List Cond := [Cond.methodLink RX2 71 yX2_fifthBeats, Cond.instanceMethod yX2_fifthBeats, Cond.selects RX2 yX2_fifthBeats yX2_fifthBeats, Cond.code yX2_fifthBeats cX2_fifthBeats 2 (some .int), Cond.methodLink RX2 61 yX2_beats, Cond.static yX2_beats, Cond.code yX2_beats cX2_beats 3 (some .int), Cond.fieldLink RX2 52 "FifthBeatsModel" "SWINGS" "[I", Cond.methodLink RX2 55 yX2_keyOf, Cond.static yX2_keyOf, Cond.code yX2_keyOf cX2_keyOf 1 (some .int), Cond.methodLink RX2 103 yX2_fifthTold, Cond.instanceMethod yX2_fifthTold, Cond.selects RX2 yX2_fifthTold yX2_fifthTold, Cond.code yX2_fifthTold cX2_fifthTold 3 (some .int), Cond.methodLink RX2 106 yX2_majorTold, Cond.instanceMethod yX2_majorTold, Cond.selects RX2 yX2_majorTold yX2_majorTold, Cond.code yX2_majorTold cX2_majorTold 3 (some .int), Cond.methodLink RX2 112 yX2_minorTold, Cond.instanceMethod yX2_minorTold, Cond.selects RX2 yX2_minorTold yX2_minorTold, Cond.code yX2_minorTold cX2_minorTold 3 (some .int), Cond.methodLink RX2 109 yX2_minorOff]
def wsX2_digest_r4 : List Cond := [Cond.instanceMethod yX2_minorOff, Cond.selects RX2 yX2_minorOff yX2_minorOff, Cond.code yX2_minorOff cX2_minorOff 2 (some .int), Cond.methodLink RX2 118 yX2_noteTold, Cond.instanceMethod yX2_noteTold, Cond.selects RX2 yX2_noteTold yX2_noteTold, Cond.code yX2_noteTold cX2_noteTold 3 (some .int), Cond.fieldLink RX2 17 "FifthBeatsModel" "drift" "[I", Cond.methodLink RX2 115 yJ9_floorMod_7cf53, Cond.static yJ9_floorMod_7cf53, Cond.initialized RJ9, Cond.code yJ9_floorMod_7cf53 cJ9_floorMod_7cf53 3 (some .int), Cond.methodLink RX2 124 yX2_keyTold, Cond.instanceMethod yX2_keyTold, Cond.selects RX2 yX2_keyTold yX2_keyTold, Cond.code yX2_keyTold cX2_keyTold 3 (some .int), Cond.methodLink RX2 121 yX2_place, Cond.instanceMethod yX2_place, Cond.selects RX2 yX2_place yX2_place, Cond.code yX2_place cX2_place 4 (some .int)]
def wsX2_digest : List Cond := .code yX2_digest cX2_digest 5 (some .long) :: ((wsX2_digest_r1 ++ (wsX2_digest_r2 ++ (wsX2_digest_r3 ++ wsX2_digest_r4))) ++ wsX20)
def wsJ9_abs_0f7a4 : List Cond := .code yJ9_abs_0f7a4 cJ9_abs_0f7a4 1 (some .int) :: ([])
def wsJ9_max_7cf53 : List Cond := .code yJ9_max_7cf53 cJ9_max_7cf53 2 (some .int) :: ([])
def wsJ9_min_7cf53 : List Cond := .code yJ9_min_7cf53 cJ9_min_7cf53 2 (some .int) :: ([])
def wsL_setFifth_r1 : List Cond := [Cond.classLink RL 13 "java/lang/IndexOutOfBoundsException", Cond.classLink RL 15 "java/lang/IllegalArgumentException", Cond.classLink RL 17 "java/lang/IllegalStateException", Cond.methodLink RL 7 yX1_setFifth, Cond.instanceMethod yX1_setFifth, Cond.selects RX1 yX1_setFifth yX1_setFifth, Cond.initialized RX1, Cond.code yX1_setFifth cX1_setFifth 4 (some .int), Cond.fieldLink RX1 10 "FifthBeats" "piano" "LFifthBeats$Piano;", Cond.fieldLink RX1 30 "FifthBeats$Piano" "narrow" "[I", Cond.methodLink RX1 19 yX1_checkRing, Cond.static yX1_checkRing, Cond.code yX1_checkRing cX1_checkRing 1 none, Cond.classLink RX1 144 "java/lang/IndexOutOfBoundsException", Cond.initialized "java/lang/IndexOutOfBoundsException", Cond.methodLink RX1 23 yX1_checkArgument, Cond.static yX1_checkArgument, Cond.code yX1_checkArgument cX1_checkArgument 3 none, Cond.classLink RX1 151 "java/lang/IllegalArgumentException", Cond.initialized "java/lang/IllegalArgumentException", Cond.methodLink RX1 27 yX1_checkNotWolf, Cond.instanceMethod yX1_checkNotWolf, Cond.selects RX1 yX1_checkNotWolf yX1_checkNotWolf, Cond.code yX1_checkNotWolf cX1_checkNotWolf 2 none]
def wsL_setFifth_r2 : List Cond := [Cond.classLink RX1 62 "java/lang/IllegalStateException", Cond.initialized "java/lang/IllegalStateException", Cond.fieldLink RX1 38 "FifthBeats$Piano" "wolf" "I", Cond.methodLink RX1 34 yX0_plan, Cond.instanceMethod yX0_plan, Cond.selects RX0 yX0_plan yX0_plan, Cond.initialized RX0, Cond.code yX0_plan cX0_plan 3 none, Cond.fieldLink RX0 9 "FifthBeats$Piano" "narrow" "[I", Cond.methodLink RX0 31 yJ9_floorMod_7cf53, Cond.static yJ9_floorMod_7cf53, Cond.initialized RJ9, Cond.code yJ9_floorMod_7cf53 cJ9_floorMod_7cf53 3 (some .int), Cond.methodLink RX0 37 yX0_giveWolfTheRest, Cond.instanceMethod yX0_giveWolfTheRest, Cond.selects RX0 yX0_giveWolfTheRest yX0_giveWolfTheRest, Cond.code yX0_giveWolfTheRest cX0_giveWolfTheRest 3 none, Cond.fieldLink RX0 24 "FifthBeats$Piano" "wolf" "I"]
def wsL_setFifth : List Cond := .codeWith yL_setFifth cL_setFifth 5 (some .int) [(0, 10, 13, 13), (0, 10, 17, 15), (0, 10, 21, 17)] :: ((wsL_setFifth_r1 ++ wsL_setFifth_r2) ++ wsX10 ++ wsX00 ++ (vx_atS RX1 148 "java/lang/IndexOutOfBoundsException" ["java/lang/RuntimeException", "java/lang/Exception"]).filter goodWord ++ (vx_atS RX1 155 "java/lang/IllegalArgumentException" ["java/lang/RuntimeException", "java/lang/Exception"]).filter goodWord ++ (vx_atS RX1 66 "java/lang/IllegalStateException" ["java/lang/RuntimeException", "java/lang/Exception"]).filter goodWord)
def wsL_shift : List Cond := .codeWith yL_shift cL_shift 4 (some .int) [(0, 9, 12, 13)] :: ([.classLink RL 13 "java/lang/IndexOutOfBoundsException", .methodLink RL 19 yX1_shift, .instanceMethod yX1_shift, .selects RX1 yX1_shift yX1_shift, .initialized RX1, .code yX1_shift cX1_shift 3 (some .int), .fieldLink RX1 10 "FifthBeats" "piano" "LFifthBeats$Piano;", .fieldLink RX1 38 "FifthBeats$Piano" "wolf" "I", .methodLink RX1 19 yX1_checkRing, .static yX1_checkRing, .code yX1_checkRing cX1_checkRing 1 none, .classLink RX1 144 "java/lang/IndexOutOfBoundsException", .initialized "java/lang/IndexOutOfBoundsException", .methodLink RX1 42 yX0_moveWolf, .instanceMethod yX0_moveWolf, .selects RX0 yX0_moveWolf yX0_moveWolf, .initialized RX0, .code yX0_moveWolf cX0_moveWolf 5 none, .fieldLink RX0 24 "FifthBeats$Piano" "wolf" "I", .fieldLink RX0 9 "FifthBeats$Piano" "narrow" "[I", .methodLink RX0 31 yJ9_floorMod_7cf53, .static yJ9_floorMod_7cf53, .initialized RJ9, .code yJ9_floorMod_7cf53 cJ9_floorMod_7cf53 3 (some .int)] ++ wsX10 ++ wsX00 ++ (vx_atS RX1 148 "java/lang/IndexOutOfBoundsException" ["java/lang/RuntimeException", "java/lang/Exception"]).filter goodWord)
def wsL_spread_r1 : List Cond := [Cond.classLink RL 15 "java/lang/IllegalArgumentException", Cond.methodLink RL 23 yX1_spread, Cond.instanceMethod yX1_spread, Cond.selects RX1 yX1_spread yX1_spread, Cond.initialized RX1, Cond.code yX1_spread cX1_spread 3 (some .int), Cond.fieldLink RX1 10 "FifthBeats" "piano" "LFifthBeats$Piano;", Cond.methodLink RX1 23 yX1_checkArgument, Cond.static yX1_checkArgument, Cond.code yX1_checkArgument cX1_checkArgument 3 none, Cond.classLink RX1 151 "java/lang/IllegalArgumentException", Cond.initialized "java/lang/IllegalArgumentException", Cond.methodLink RX1 45 yX0_wolfNarrow, Cond.instanceMethod yX0_wolfNarrow, Cond.selects RX0 yX0_wolfNarrow yX0_wolfNarrow, Cond.initialized RX0, Cond.code yX0_wolfNarrow cX0_wolfNarrow 1 (some .int), Cond.fieldLink RX0 9 "FifthBeats$Piano" "narrow" "[I", Cond.fieldLink RX0 24 "FifthBeats$Piano" "wolf" "I", Cond.methodLink RX0 31 yJ9_floorMod_7cf53, Cond.static yJ9_floorMod_7cf53, Cond.initialized RJ9, Cond.code yJ9_floorMod_7cf53 cJ9_floorMod_7cf53 3 (some .int), Cond.methodLink RX1 49 yX0_spreadComma]
def wsL_spread_r2 : List Cond := [Cond.instanceMethod yX0_spreadComma, Cond.selects RX0 yX0_spreadComma yX0_spreadComma, Cond.code yX0_spreadComma cX0_spreadComma 6 none, Cond.methodLink RX0 37 yX0_giveWolfTheRest, Cond.instanceMethod yX0_giveWolfTheRest, Cond.selects RX0 yX0_giveWolfTheRest yX0_giveWolfTheRest, Cond.code yX0_giveWolfTheRest cX0_giveWolfTheRest 3 none]
def wsL_spread : List Cond := .codeWith yL_spread cL_spread 4 (some .int) [(0, 9, 12, 15)] :: ((wsL_spread_r1 ++ wsL_spread_r2) ++ wsX10 ++ wsX00 ++ (vx_atS RX1 155 "java/lang/IllegalArgumentException" ["java/lang/RuntimeException", "java/lang/Exception"]).filter goodWord)
def wsL_setOften : List Cond := .codeWith yL_setOften cL_setOften 5 (some .int) [(0, 10, 13, 13), (0, 10, 17, 15)] :: ([.classLink RL 13 "java/lang/IndexOutOfBoundsException", .classLink RL 15 "java/lang/IllegalArgumentException", .methodLink RL 26 yX1_setOften, .instanceMethod yX1_setOften, .selects RX1 yX1_setOften yX1_setOften, .initialized RX1, .code yX1_setOften cX1_setOften 4 (some .int), .fieldLink RX1 10 "FifthBeats" "piano" "LFifthBeats$Piano;", .fieldLink RX1 52 "FifthBeats$Piano" "often" "[I", .methodLink RX1 19 yX1_checkRing, .static yX1_checkRing, .code yX1_checkRing cX1_checkRing 1 none, .classLink RX1 144 "java/lang/IndexOutOfBoundsException", .initialized "java/lang/IndexOutOfBoundsException", .methodLink RX1 23 yX1_checkArgument, .static yX1_checkArgument, .code yX1_checkArgument cX1_checkArgument 3 none, .classLink RX1 151 "java/lang/IllegalArgumentException", .initialized "java/lang/IllegalArgumentException"] ++ wsX10 ++ wsX00 ++ (vx_atS RX1 148 "java/lang/IndexOutOfBoundsException" ["java/lang/RuntimeException", "java/lang/Exception"]).filter goodWord ++ (vx_atS RX1 155 "java/lang/IllegalArgumentException" ["java/lang/RuntimeException", "java/lang/Exception"]).filter goodWord)
def wsL_setDrift : List Cond := .codeWith yL_setDrift cL_setDrift 5 (some .int) [(0, 10, 13, 13), (0, 10, 17, 15)] :: ([.classLink RL 13 "java/lang/IndexOutOfBoundsException", .classLink RL 15 "java/lang/IllegalArgumentException", .methodLink RL 29 yX1_setDrift, .instanceMethod yX1_setDrift, .selects RX1 yX1_setDrift yX1_setDrift, .initialized RX1, .code yX1_setDrift cX1_setDrift 4 (some .int), .fieldLink RX1 10 "FifthBeats" "piano" "LFifthBeats$Piano;", .fieldLink RX1 55 "FifthBeats$Piano" "drift" "[I", .methodLink RX1 19 yX1_checkRing, .static yX1_checkRing, .code yX1_checkRing cX1_checkRing 1 none, .classLink RX1 144 "java/lang/IndexOutOfBoundsException", .initialized "java/lang/IndexOutOfBoundsException", .methodLink RX1 23 yX1_checkArgument, .static yX1_checkArgument, .code yX1_checkArgument cX1_checkArgument 3 none, .classLink RX1 151 "java/lang/IllegalArgumentException", .initialized "java/lang/IllegalArgumentException"] ++ wsX10 ++ wsX00 ++ (vx_atS RX1 148 "java/lang/IndexOutOfBoundsException" ["java/lang/RuntimeException", "java/lang/Exception"]).filter goodWord ++ (vx_atS RX1 155 "java/lang/IllegalArgumentException" ["java/lang/RuntimeException", "java/lang/Exception"]).filter goodWord)
def wsL_tune_r1 : List Cond := [Cond.classLink RL 13 "java/lang/IndexOutOfBoundsException", Cond.classLink RL 17 "java/lang/IllegalStateException", Cond.methodLink RL 32 yX1_tune, Cond.instanceMethod yX1_tune, Cond.selects RX1 yX1_tune yX1_tune, Cond.initialized RX1, Cond.code yX1_tune cX1_tune 2 (some .int), Cond.classLink RX1 62 "java/lang/IllegalStateException", Cond.initialized "java/lang/IllegalStateException", Cond.fieldLink RX1 10 "FifthBeats" "piano" "LFifthBeats$Piano;", Cond.methodLink RX1 19 yX1_checkRing, Cond.static yX1_checkRing, Cond.code yX1_checkRing cX1_checkRing 1 none, Cond.classLink RX1 144 "java/lang/IndexOutOfBoundsException", Cond.initialized "java/lang/IndexOutOfBoundsException", Cond.methodLink RX1 58 yX0_canTune, Cond.instanceMethod yX0_canTune, Cond.selects RX0 yX0_canTune yX0_canTune, Cond.initialized RX0, Cond.code yX0_canTune cX0_canTune 2 (some .boolean), Cond.fieldLink RX0 24 "FifthBeats$Piano" "wolf" "I", Cond.methodLink RX0 31 yJ9_floorMod_7cf53, Cond.static yJ9_floorMod_7cf53, Cond.initialized RJ9]
def wsL_tune_r2 : List Cond := [Cond.code yJ9_floorMod_7cf53 cJ9_floorMod_7cf53 3 (some .int), Cond.methodLink RX1 69 yX0_tuneOne, Cond.instanceMethod yX0_tuneOne, Cond.selects RX0 yX0_tuneOne yX0_tuneOne, Cond.code yX0_tuneOne cX0_tuneOne 4 (some .int), Cond.fieldLink RX0 15 "FifthBeats$Piano" "off" "[I"]
def wsL_tune : List Cond := .codeWith yL_tune cL_tune 4 (some .int) [(0, 9, 12, 13), (0, 9, 15, 17)] :: ((wsL_tune_r1 ++ wsL_tune_r2) ++ wsX10 ++ wsX00 ++ (vx_atS RX1 66 "java/lang/IllegalStateException" ["java/lang/RuntimeException", "java/lang/Exception"]).filter goodWord ++ (vx_atS RX1 148 "java/lang/IndexOutOfBoundsException" ["java/lang/RuntimeException", "java/lang/Exception"]).filter goodWord)
def wsL_sweeten_r1 : List Cond := [Cond.classLink RL 13 "java/lang/IndexOutOfBoundsException", Cond.classLink RL 17 "java/lang/IllegalStateException", Cond.methodLink RL 35 yX1_sweeten, Cond.instanceMethod yX1_sweeten, Cond.selects RX1 yX1_sweeten yX1_sweeten, Cond.initialized RX1, Cond.code yX1_sweeten cX1_sweeten 3 (some .int), Cond.classLink RX1 62 "java/lang/IllegalStateException", Cond.initialized "java/lang/IllegalStateException", Cond.fieldLink RX1 10 "FifthBeats" "piano" "LFifthBeats$Piano;", Cond.fieldLink RX1 81 "FifthBeats$Piano" "off" "[I", Cond.methodLink RX1 19 yX1_checkRing, Cond.static yX1_checkRing, Cond.code yX1_checkRing cX1_checkRing 1 none, Cond.classLink RX1 144 "java/lang/IndexOutOfBoundsException", Cond.initialized "java/lang/IndexOutOfBoundsException", Cond.methodLink RX1 76 yX0_offForPureMajor, Cond.instanceMethod yX0_offForPureMajor, Cond.selects RX0 yX0_offForPureMajor yX0_offForPureMajor, Cond.initialized RX0, Cond.code yX0_offForPureMajor cX0_offForPureMajor 2 (some .int), Cond.fieldLink RX0 15 "FifthBeats$Piano" "off" "[I", Cond.methodLink RX0 31 yJ9_floorMod_7cf53, Cond.static yJ9_floorMod_7cf53]
def wsL_sweeten_r2 : List Cond := [Cond.initialized RJ9, Cond.code yJ9_floorMod_7cf53 cJ9_floorMod_7cf53 3 (some .int), Cond.methodLink RX0 44 yX0_majorOff, Cond.instanceMethod yX0_majorOff, Cond.selects RX0 yX0_majorOff yX0_majorOff, Cond.code yX0_majorOff cX0_majorOff 4 (some .int), Cond.methodLink RX0 53 yX0_narrowness, Cond.instanceMethod yX0_narrowness, Cond.selects RX0 yX0_narrowness yX0_narrowness, Cond.code yX0_narrowness cX0_narrowness 4 (some .int), Cond.fieldLink RX0 9 "FifthBeats$Piano" "narrow" "[I", Cond.methodLink RX1 84 yJ9_floorMod_7cf53]
def wsL_sweeten : List Cond := .codeWith yL_sweeten cL_sweeten 4 (some .int) [(0, 9, 12, 13), (0, 9, 15, 17)] :: ((wsL_sweeten_r1 ++ wsL_sweeten_r2) ++ wsX10 ++ wsX00 ++ (vx_atS RX1 66 "java/lang/IllegalStateException" ["java/lang/RuntimeException", "java/lang/Exception"]).filter goodWord ++ (vx_atS RX1 148 "java/lang/IndexOutOfBoundsException" ["java/lang/RuntimeException", "java/lang/Exception"]).filter goodWord)
def wsL_pass_r1 : List Cond := [Cond.classLink RL 15 "java/lang/IllegalArgumentException", Cond.methodLink RL 38 yX1_pass, Cond.instanceMethod yX1_pass, Cond.selects RX1 yX1_pass yX1_pass, Cond.initialized RX1, Cond.code yX1_pass cX1_pass 2 (some .int), Cond.fieldLink RX1 10 "FifthBeats" "piano" "LFifthBeats$Piano;", Cond.methodLink RX1 23 yX1_checkArgument, Cond.static yX1_checkArgument, Cond.code yX1_checkArgument cX1_checkArgument 3 none, Cond.classLink RX1 151 "java/lang/IllegalArgumentException", Cond.initialized "java/lang/IllegalArgumentException", Cond.methodLink RX1 90 yX0_letPass, Cond.instanceMethod yX0_letPass, Cond.selects RX0 yX0_letPass yX0_letPass, Cond.initialized RX0, Cond.code yX0_letPass cX0_letPass 4 none, Cond.fieldLink RX0 15 "FifthBeats$Piano" "off" "[I", Cond.fieldLink RX0 18 "FifthBeats$Piano" "drift" "[I", Cond.methodLink RX0 47 Lib.Math.min.name, Cond.static Lib.Math.min.name, Cond.initialized "java/lang/Math", Cond.code Lib.Math.min.name Lib.Math.min.code 2 (some .int), Cond.methodLink RX0 50 Lib.Math.max.name]
def wsL_pass_r2 : List Cond := [Cond.static Lib.Math.max.name, Cond.code Lib.Math.max.name Lib.Math.max.code 2 (some .int), Cond.fieldLink RX0 28 "FifthBeats$Piano" "day" "I", Cond.methodLink RX1 93 yX0_mostOff, Cond.instanceMethod yX0_mostOff, Cond.selects RX0 yX0_mostOff yX0_mostOff, Cond.code yX0_mostOff cX0_mostOff 3 (some .int), Cond.methodLink RX0 59 Lib.Math.abs.name, Cond.static Lib.Math.abs.name, Cond.code Lib.Math.abs.name Lib.Math.abs.code 1 (some .int)]
def wsL_pass : List Cond := .codeWith yL_pass cL_pass 4 (some .int) [(0, 9, 12, 15)] :: ((wsL_pass_r1 ++ wsL_pass_r2) ++ wsX10 ++ wsX00 ++ (vx_atS RX1 155 "java/lang/IllegalArgumentException" ["java/lang/RuntimeException", "java/lang/Exception"]).filter goodWord)
def wsL_fifth_r1 : List Cond := [Cond.classLink RL 13 "java/lang/IndexOutOfBoundsException", Cond.methodLink RL 41 yX1_fifth, Cond.instanceMethod yX1_fifth, Cond.selects RX1 yX1_fifth yX1_fifth, Cond.initialized RX1, Cond.code yX1_fifth cX1_fifth 3 (some .int), Cond.fieldLink RX1 10 "FifthBeats" "piano" "LFifthBeats$Piano;", Cond.methodLink RX1 19 yX1_checkRing, Cond.static yX1_checkRing, Cond.code yX1_checkRing cX1_checkRing 1 none, Cond.classLink RX1 144 "java/lang/IndexOutOfBoundsException", Cond.initialized "java/lang/IndexOutOfBoundsException", Cond.methodLink RX1 96 yX1_checkWhat, Cond.static yX1_checkWhat, Cond.code yX1_checkWhat cX1_checkWhat 3 none, Cond.methodLink RX1 99 yX0_tellFifth, Cond.instanceMethod yX0_tellFifth, Cond.selects RX0 yX0_tellFifth yX0_tellFifth, Cond.initialized RX0, Cond.code yX0_tellFifth cX0_tellFifth 4 (some .int), Cond.fieldLink RX0 9 "FifthBeats$Piano" "narrow" "[I", Cond.fieldLink RX0 24 "FifthBeats$Piano" "wolf" "I", Cond.methodLink RX0 31 yJ9_floorMod_7cf53, Cond.static yJ9_floorMod_7cf53]
def wsL_fifth_r2 : List Cond := [Cond.initialized RJ9, Cond.code yJ9_floorMod_7cf53 cJ9_floorMod_7cf53 3 (some .int), Cond.methodLink RX0 53 yX0_narrowness, Cond.instanceMethod yX0_narrowness, Cond.selects RX0 yX0_narrowness yX0_narrowness, Cond.code yX0_narrowness cX0_narrowness 4 (some .int), Cond.fieldLink RX0 15 "FifthBeats$Piano" "off" "[I", Cond.methodLink RX0 68 yX0_fifthWidth, Cond.instanceMethod yX0_fifthWidth, Cond.selects RX0 yX0_fifthWidth yX0_fifthWidth, Cond.code yX0_fifthWidth cX0_fifthWidth 2 (some .int), Cond.methodLink RX0 74 yX0_fifthBeats, Cond.instanceMethod yX0_fifthBeats, Cond.selects RX0 yX0_fifthBeats yX0_fifthBeats, Cond.code yX0_fifthBeats cX0_fifthBeats 2 (some .int), Cond.methodLink RX0 59 Lib.Math.abs.name, Cond.static Lib.Math.abs.name, Cond.initialized "java/lang/Math", Cond.code Lib.Math.abs.name Lib.Math.abs.code 1 (some .int), Cond.methodLink RX0 56 yX0_swings, Cond.instanceMethod yX0_swings, Cond.selects RX0 yX0_swings yX0_swings, Cond.code yX0_swings cX0_swings 2 (some .int), Cond.methodLink RX0 65 yX0_keyboardNumber]
def wsL_fifth_r3 : List Cond := [Cond.instanceMethod yX0_keyboardNumber, Cond.selects RX0 yX0_keyboardNumber yX0_keyboardNumber, Cond.code yX0_keyboardNumber cX0_keyboardNumber 2 (some .int)]
def wsL_fifth : List Cond := .codeWith yL_fifth cL_fifth 5 (some .int) [(0, 10, 13, 13)] :: ((wsL_fifth_r1 ++ (wsL_fifth_r2 ++ wsL_fifth_r3)) ++ wsX10 ++ wsX00 ++ (vx_atS RX1 148 "java/lang/IndexOutOfBoundsException" ["java/lang/RuntimeException", "java/lang/Exception"]).filter goodWord)
def wsL_major_r1 : List Cond := [Cond.classLink RL 13 "java/lang/IndexOutOfBoundsException", Cond.methodLink RL 44 yX1_major, Cond.instanceMethod yX1_major, Cond.selects RX1 yX1_major yX1_major, Cond.initialized RX1, Cond.code yX1_major cX1_major 3 (some .int), Cond.fieldLink RX1 10 "FifthBeats" "piano" "LFifthBeats$Piano;", Cond.methodLink RX1 19 yX1_checkRing, Cond.static yX1_checkRing, Cond.code yX1_checkRing cX1_checkRing 1 none, Cond.classLink RX1 144 "java/lang/IndexOutOfBoundsException", Cond.initialized "java/lang/IndexOutOfBoundsException", Cond.methodLink RX1 96 yX1_checkWhat, Cond.static yX1_checkWhat, Cond.code yX1_checkWhat cX1_checkWhat 3 none, Cond.methodLink RX1 102 yX0_tellMajor, Cond.instanceMethod yX0_tellMajor, Cond.selects RX0 yX0_tellMajor yX0_tellMajor, Cond.initialized RX0, Cond.code yX0_tellMajor cX0_tellMajor 3 (some .int), Cond.methodLink RX0 44 yX0_majorOff, Cond.instanceMethod yX0_majorOff, Cond.selects RX0 yX0_majorOff yX0_majorOff, Cond.code yX0_majorOff cX0_majorOff 4 (some .int)]
def wsL_major_r2 : List Cond := [Cond.methodLink RX0 53 yX0_narrowness, Cond.instanceMethod yX0_narrowness, Cond.selects RX0 yX0_narrowness yX0_narrowness, Cond.code yX0_narrowness cX0_narrowness 4 (some .int), Cond.fieldLink RX0 9 "FifthBeats$Piano" "narrow" "[I", Cond.fieldLink RX0 15 "FifthBeats$Piano" "off" "[I", Cond.methodLink RX0 31 yJ9_floorMod_7cf53, Cond.static yJ9_floorMod_7cf53, Cond.initialized RJ9, Cond.code yJ9_floorMod_7cf53 cJ9_floorMod_7cf53 3 (some .int), Cond.methodLink RX0 77 yX0_majorBeats, Cond.instanceMethod yX0_majorBeats, Cond.selects RX0 yX0_majorBeats yX0_majorBeats, Cond.code yX0_majorBeats cX0_majorBeats 2 (some .int), Cond.methodLink RX0 59 Lib.Math.abs.name, Cond.static Lib.Math.abs.name, Cond.initialized "java/lang/Math", Cond.code Lib.Math.abs.name Lib.Math.abs.code 1 (some .int), Cond.methodLink RX0 56 yX0_swings, Cond.instanceMethod yX0_swings, Cond.selects RX0 yX0_swings yX0_swings, Cond.code yX0_swings cX0_swings 2 (some .int), Cond.methodLink RX0 65 yX0_keyboardNumber, Cond.instanceMethod yX0_keyboardNumber]
def wsL_major_r3 : List Cond := [Cond.selects RX0 yX0_keyboardNumber yX0_keyboardNumber, Cond.code yX0_keyboardNumber cX0_keyboardNumber 2 (some .int)]
def wsL_major : List Cond := .codeWith yL_major cL_major 5 (some .int) [(0, 10, 13, 13)] :: ((wsL_major_r1 ++ (wsL_major_r2 ++ wsL_major_r3)) ++ wsX10 ++ wsX00 ++ (vx_atS RX1 148 "java/lang/IndexOutOfBoundsException" ["java/lang/RuntimeException", "java/lang/Exception"]).filter goodWord)
def wsL_minor_r1 : List Cond := [Cond.classLink RL 13 "java/lang/IndexOutOfBoundsException", Cond.methodLink RL 47 yX1_minor, Cond.instanceMethod yX1_minor, Cond.selects RX1 yX1_minor yX1_minor, Cond.initialized RX1, Cond.code yX1_minor cX1_minor 3 (some .int), Cond.fieldLink RX1 10 "FifthBeats" "piano" "LFifthBeats$Piano;", Cond.methodLink RX1 19 yX1_checkRing, Cond.static yX1_checkRing, Cond.code yX1_checkRing cX1_checkRing 1 none, Cond.classLink RX1 144 "java/lang/IndexOutOfBoundsException", Cond.initialized "java/lang/IndexOutOfBoundsException", Cond.methodLink RX1 96 yX1_checkWhat, Cond.static yX1_checkWhat, Cond.code yX1_checkWhat cX1_checkWhat 3 none, Cond.methodLink RX1 105 yX0_tellMinor, Cond.instanceMethod yX0_tellMinor, Cond.selects RX0 yX0_tellMinor yX0_tellMinor, Cond.initialized RX0, Cond.code yX0_tellMinor cX0_tellMinor 4 (some .int), Cond.methodLink RX0 80 yX0_minorWidth, Cond.instanceMethod yX0_minorWidth, Cond.selects RX0 yX0_minorWidth yX0_minorWidth, Cond.code yX0_minorWidth cX0_minorWidth 4 (some .int)]
def wsL_minor_r2 : List Cond := [Cond.methodLink RX0 53 yX0_narrowness, Cond.instanceMethod yX0_narrowness, Cond.selects RX0 yX0_narrowness yX0_narrowness, Cond.code yX0_narrowness cX0_narrowness 4 (some .int), Cond.fieldLink RX0 9 "FifthBeats$Piano" "narrow" "[I", Cond.fieldLink RX0 15 "FifthBeats$Piano" "off" "[I", Cond.methodLink RX0 31 yJ9_floorMod_7cf53, Cond.static yJ9_floorMod_7cf53, Cond.initialized RJ9, Cond.code yJ9_floorMod_7cf53 cJ9_floorMod_7cf53 3 (some .int)]
def wsL_minor : List Cond := .codeWith yL_minor cL_minor 5 (some .int) [(0, 10, 13, 13)] :: ((wsL_minor_r1 ++ wsL_minor_r2) ++ wsX10 ++ wsX00 ++ (vx_atS RX1 148 "java/lang/IndexOutOfBoundsException" ["java/lang/RuntimeException", "java/lang/Exception"]).filter goodWord)
def wsL_note_r1 : List Cond := [Cond.classLink RL 13 "java/lang/IndexOutOfBoundsException", Cond.methodLink RL 50 yX1_note, Cond.instanceMethod yX1_note, Cond.selects RX1 yX1_note yX1_note, Cond.initialized RX1, Cond.code yX1_note cX1_note 3 (some .int), Cond.fieldLink RX1 10 "FifthBeats" "piano" "LFifthBeats$Piano;", Cond.methodLink RX1 19 yX1_checkRing, Cond.static yX1_checkRing, Cond.code yX1_checkRing cX1_checkRing 1 none, Cond.classLink RX1 144 "java/lang/IndexOutOfBoundsException", Cond.initialized "java/lang/IndexOutOfBoundsException", Cond.methodLink RX1 96 yX1_checkWhat, Cond.static yX1_checkWhat, Cond.code yX1_checkWhat cX1_checkWhat 3 none, Cond.methodLink RX1 108 yX0_tellNote, Cond.instanceMethod yX0_tellNote, Cond.selects RX0 yX0_tellNote yX0_tellNote, Cond.initialized RX0, Cond.code yX0_tellNote cX0_tellNote 4 (some .int), Cond.fieldLink RX0 15 "FifthBeats$Piano" "off" "[I", Cond.fieldLink RX0 18 "FifthBeats$Piano" "drift" "[I", Cond.methodLink RX0 31 yJ9_floorMod_7cf53, Cond.static yJ9_floorMod_7cf53]
def wsL_note_r2 : List Cond := [Cond.initialized RJ9, Cond.code yJ9_floorMod_7cf53 cJ9_floorMod_7cf53 3 (some .int), Cond.methodLink RX0 65 yX0_keyboardNumber, Cond.instanceMethod yX0_keyboardNumber, Cond.selects RX0 yX0_keyboardNumber yX0_keyboardNumber, Cond.code yX0_keyboardNumber cX0_keyboardNumber 2 (some .int), Cond.methodLink RX0 56 yX0_swings, Cond.instanceMethod yX0_swings, Cond.selects RX0 yX0_swings yX0_swings, Cond.code yX0_swings cX0_swings 2 (some .int), Cond.methodLink RX0 83 yX0_height, Cond.instanceMethod yX0_height, Cond.selects RX0 yX0_height yX0_height, Cond.code yX0_height cX0_height 4 (some .int), Cond.methodLink RX0 68 yX0_fifthWidth, Cond.instanceMethod yX0_fifthWidth, Cond.selects RX0 yX0_fifthWidth yX0_fifthWidth, Cond.code yX0_fifthWidth cX0_fifthWidth 2 (some .int), Cond.methodLink RX0 53 yX0_narrowness, Cond.instanceMethod yX0_narrowness, Cond.selects RX0 yX0_narrowness yX0_narrowness, Cond.code yX0_narrowness cX0_narrowness 4 (some .int), Cond.fieldLink RX0 9 "FifthBeats$Piano" "narrow" "[I"]
def wsL_note : List Cond := .codeWith yL_note cL_note 5 (some .int) [(0, 10, 13, 13)] :: ((wsL_note_r1 ++ wsL_note_r2) ++ wsX10 ++ wsX00 ++ (vx_atS RX1 148 "java/lang/IndexOutOfBoundsException" ["java/lang/RuntimeException", "java/lang/Exception"]).filter goodWord)
def wsL_key_r1 : List Cond := [Cond.classLink RL 13 "java/lang/IndexOutOfBoundsException", Cond.methodLink RL 53 yX1_key, Cond.instanceMethod yX1_key, Cond.selects RX1 yX1_key yX1_key, Cond.initialized RX1, Cond.code yX1_key cX1_key 3 (some .int), Cond.fieldLink RX1 10 "FifthBeats" "piano" "LFifthBeats$Piano;", Cond.methodLink RX1 19 yX1_checkRing, Cond.static yX1_checkRing, Cond.code yX1_checkRing cX1_checkRing 1 none, Cond.classLink RX1 144 "java/lang/IndexOutOfBoundsException", Cond.initialized "java/lang/IndexOutOfBoundsException", Cond.methodLink RX1 96 yX1_checkWhat, Cond.static yX1_checkWhat, Cond.code yX1_checkWhat cX1_checkWhat 3 none, Cond.methodLink RX1 111 yX0_tellKey, Cond.instanceMethod yX0_tellKey, Cond.selects RX0 yX0_tellKey yX0_tellKey, Cond.initialized RX0, Cond.code yX0_tellKey cX0_tellKey 4 (some .int), Cond.fieldLink RX0 21 "FifthBeats$Piano" "often" "[I", Cond.methodLink RX0 31 yJ9_floorMod_7cf53, Cond.static yJ9_floorMod_7cf53, Cond.initialized RJ9]
def wsL_key_r2 : List Cond := [Cond.code yJ9_floorMod_7cf53 cJ9_floorMod_7cf53 3 (some .int), Cond.methodLink RX0 71 yX0_sourness, Cond.instanceMethod yX0_sourness, Cond.selects RX0 yX0_sourness yX0_sourness, Cond.code yX0_sourness cX0_sourness 2 (some .int), Cond.methodLink RX0 59 Lib.Math.abs.name, Cond.static Lib.Math.abs.name, Cond.initialized "java/lang/Math", Cond.code Lib.Math.abs.name Lib.Math.abs.code 1 (some .int), Cond.methodLink RX0 44 yX0_majorOff, Cond.instanceMethod yX0_majorOff, Cond.selects RX0 yX0_majorOff yX0_majorOff, Cond.code yX0_majorOff cX0_majorOff 4 (some .int), Cond.methodLink RX0 53 yX0_narrowness, Cond.instanceMethod yX0_narrowness, Cond.selects RX0 yX0_narrowness yX0_narrowness, Cond.code yX0_narrowness cX0_narrowness 4 (some .int), Cond.fieldLink RX0 9 "FifthBeats$Piano" "narrow" "[I", Cond.fieldLink RX0 15 "FifthBeats$Piano" "off" "[I", Cond.methodLink RX0 86 yX0_place, Cond.instanceMethod yX0_place, Cond.selects RX0 yX0_place yX0_place, Cond.code yX0_place cX0_place 6 (some .int)]
def wsL_key : List Cond := .codeWith yL_key cL_key 5 (some .int) [(0, 10, 13, 13)] :: ((wsL_key_r1 ++ wsL_key_r2) ++ wsX10 ++ wsX00 ++ (vx_atS RX1 148 "java/lang/IndexOutOfBoundsException" ["java/lang/RuntimeException", "java/lang/Exception"]).filter goodWord)
def wsL_count_r1 : List Cond := [Cond.classLink RL 13 "java/lang/IndexOutOfBoundsException", Cond.methodLink RL 56 yX1_count, Cond.instanceMethod yX1_count, Cond.selects RX1 yX1_count yX1_count, Cond.initialized RX1, Cond.code yX1_count cX1_count 2 (some .int), Cond.fieldLink RX1 10 "FifthBeats" "piano" "LFifthBeats$Piano;", Cond.methodLink RX1 96 yX1_checkWhat, Cond.static yX1_checkWhat, Cond.code yX1_checkWhat cX1_checkWhat 3 none, Cond.classLink RX1 144 "java/lang/IndexOutOfBoundsException", Cond.initialized "java/lang/IndexOutOfBoundsException", Cond.methodLink RX1 114 yX0_tellCount, Cond.instanceMethod yX0_tellCount, Cond.selects RX0 yX0_tellCount yX0_tellCount, Cond.initialized RX0, Cond.code yX0_tellCount cX0_tellCount 2 (some .int), Cond.fieldLink RX0 28 "FifthBeats$Piano" "day" "I", Cond.fieldLink RX0 24 "FifthBeats$Piano" "wolf" "I", Cond.methodLink RX0 89 yX0_cost, Cond.instanceMethod yX0_cost, Cond.selects RX0 yX0_cost yX0_cost, Cond.code yX0_cost cX0_cost 3 (some .int), Cond.fieldLink RX0 21 "FifthBeats$Piano" "often" "[I"]
def wsL_count_r2 : List Cond := [Cond.methodLink RX0 71 yX0_sourness, Cond.instanceMethod yX0_sourness, Cond.selects RX0 yX0_sourness yX0_sourness, Cond.code yX0_sourness cX0_sourness 2 (some .int), Cond.methodLink RX0 59 Lib.Math.abs.name, Cond.static Lib.Math.abs.name, Cond.initialized "java/lang/Math", Cond.code Lib.Math.abs.name Lib.Math.abs.code 1 (some .int), Cond.methodLink RX0 44 yX0_majorOff, Cond.instanceMethod yX0_majorOff, Cond.selects RX0 yX0_majorOff yX0_majorOff, Cond.code yX0_majorOff cX0_majorOff 4 (some .int), Cond.methodLink RX0 53 yX0_narrowness, Cond.instanceMethod yX0_narrowness, Cond.selects RX0 yX0_narrowness yX0_narrowness, Cond.code yX0_narrowness cX0_narrowness 4 (some .int), Cond.fieldLink RX0 9 "FifthBeats$Piano" "narrow" "[I", Cond.fieldLink RX0 15 "FifthBeats$Piano" "off" "[I", Cond.methodLink RX0 31 yJ9_floorMod_7cf53, Cond.static yJ9_floorMod_7cf53, Cond.initialized RJ9, Cond.code yJ9_floorMod_7cf53 cJ9_floorMod_7cf53 3 (some .int), Cond.methodLink RX0 93 yX0_mostMajorOff, Cond.instanceMethod yX0_mostMajorOff]
def wsL_count_r3 : List Cond := [Cond.selects RX0 yX0_mostMajorOff yX0_mostMajorOff, Cond.code yX0_mostMajorOff cX0_mostMajorOff 3 (some .int), Cond.methodLink RX0 50 Lib.Math.max.name, Cond.static Lib.Math.max.name, Cond.code Lib.Math.max.name Lib.Math.max.code 2 (some .int), Cond.methodLink RX0 96 yX0_pureFifths, Cond.instanceMethod yX0_pureFifths, Cond.selects RX0 yX0_pureFifths yX0_pureFifths, Cond.code yX0_pureFifths cX0_pureFifths 3 (some .int), Cond.methodLink RX0 99 yX0_allOff, Cond.instanceMethod yX0_allOff, Cond.selects RX0 yX0_allOff yX0_allOff, Cond.code yX0_allOff cX0_allOff 3 (some .int), Cond.methodLink RX0 102 yX0_fastestBeats, Cond.instanceMethod yX0_fastestBeats, Cond.selects RX0 yX0_fastestBeats yX0_fastestBeats, Cond.code yX0_fastestBeats cX0_fastestBeats 3 (some .int), Cond.methodLink RX0 74 yX0_fifthBeats, Cond.instanceMethod yX0_fifthBeats, Cond.selects RX0 yX0_fifthBeats yX0_fifthBeats, Cond.code yX0_fifthBeats cX0_fifthBeats 2 (some .int), Cond.methodLink RX0 56 yX0_swings, Cond.instanceMethod yX0_swings, Cond.selects RX0 yX0_swings yX0_swings]
def wsL_count_r4 : List Cond := [Cond.code yX0_swings cX0_swings 2 (some .int), Cond.methodLink RX0 65 yX0_keyboardNumber, Cond.instanceMethod yX0_keyboardNumber, Cond.selects RX0 yX0_keyboardNumber yX0_keyboardNumber, Cond.code yX0_keyboardNumber cX0_keyboardNumber 2 (some .int)]
def wsL_count : List Cond := .codeWith yL_count cL_count 4 (some .int) [(0, 9, 12, 13)] :: ((wsL_count_r1 ++ (wsL_count_r2 ++ (wsL_count_r3 ++ wsL_count_r4))) ++ wsX10 ++ wsX00 ++ (vx_atS RX1 148 "java/lang/IndexOutOfBoundsException" ["java/lang/RuntimeException", "java/lang/Exception"]).filter goodWord)
def wsL_foresee_r1 : List Cond := [Cond.classLink RL 15 "java/lang/IllegalArgumentException", Cond.classLink RL 13 "java/lang/IndexOutOfBoundsException", Cond.methodLink RL 59 yX1_foresee, Cond.instanceMethod yX1_foresee, Cond.selects RX1 yX1_foresee yX1_foresee, Cond.initialized RX1, Cond.code yX1_foresee cX1_foresee 3 (some .int), Cond.fieldLink RX1 16 "FifthBeats" "trial" "LFifthBeats$Piano;", Cond.methodLink RX1 23 yX1_checkArgument, Cond.static yX1_checkArgument, Cond.code yX1_checkArgument cX1_checkArgument 3 none, Cond.classLink RX1 151 "java/lang/IllegalArgumentException", Cond.initialized "java/lang/IllegalArgumentException", Cond.methodLink RX1 96 yX1_checkWhat, Cond.static yX1_checkWhat, Cond.code yX1_checkWhat cX1_checkWhat 3 none, Cond.classLink RX1 144 "java/lang/IndexOutOfBoundsException", Cond.initialized "java/lang/IndexOutOfBoundsException", Cond.methodLink RX1 117 yX1_startTrial, Cond.instanceMethod yX1_startTrial, Cond.selects RX1 yX1_startTrial yX1_startTrial, Cond.code yX1_startTrial cX1_startTrial 2 none, Cond.fieldLink RX1 30 "FifthBeats$Piano" "narrow" "[I", Cond.fieldLink RX1 10 "FifthBeats" "piano" "LFifthBeats$Piano;"]
def wsL_foresee_r2 : List Cond := [Cond.fieldLink RX1 81 "FifthBeats$Piano" "off" "[I", Cond.fieldLink RX1 55 "FifthBeats$Piano" "drift" "[I", Cond.fieldLink RX1 52 "FifthBeats$Piano" "often" "[I", Cond.fieldLink RX1 38 "FifthBeats$Piano" "wolf" "I", Cond.fieldLink RX1 158 "FifthBeats$Piano" "day" "I", Cond.methodLink RX1 90 yX0_letPass, Cond.instanceMethod yX0_letPass, Cond.selects RX0 yX0_letPass yX0_letPass, Cond.initialized RX0, Cond.code yX0_letPass cX0_letPass 4 none, Cond.fieldLink RX0 15 "FifthBeats$Piano" "off" "[I", Cond.fieldLink RX0 18 "FifthBeats$Piano" "drift" "[I", Cond.methodLink RX0 47 Lib.Math.min.name, Cond.static Lib.Math.min.name, Cond.initialized "java/lang/Math", Cond.code Lib.Math.min.name Lib.Math.min.code 2 (some .int), Cond.methodLink RX0 50 Lib.Math.max.name, Cond.static Lib.Math.max.name, Cond.code Lib.Math.max.name Lib.Math.max.code 2 (some .int), Cond.fieldLink RX0 28 "FifthBeats$Piano" "day" "I", Cond.methodLink RX1 114 yX0_tellCount, Cond.instanceMethod yX0_tellCount, Cond.selects RX0 yX0_tellCount yX0_tellCount, Cond.code yX0_tellCount cX0_tellCount 2 (some .int)]
def wsL_foresee_r3 : List Cond := [Cond.fieldLink RX0 24 "FifthBeats$Piano" "wolf" "I", Cond.methodLink RX0 89 yX0_cost, Cond.instanceMethod yX0_cost, Cond.selects RX0 yX0_cost yX0_cost, Cond.code yX0_cost cX0_cost 3 (some .int), Cond.fieldLink RX0 21 "FifthBeats$Piano" "often" "[I", Cond.methodLink RX0 71 yX0_sourness, Cond.instanceMethod yX0_sourness, Cond.selects RX0 yX0_sourness yX0_sourness, Cond.code yX0_sourness cX0_sourness 2 (some .int), Cond.methodLink RX0 59 Lib.Math.abs.name, Cond.static Lib.Math.abs.name, Cond.code Lib.Math.abs.name Lib.Math.abs.code 1 (some .int), Cond.methodLink RX0 44 yX0_majorOff, Cond.instanceMethod yX0_majorOff, Cond.selects RX0 yX0_majorOff yX0_majorOff, Cond.code yX0_majorOff cX0_majorOff 4 (some .int), Cond.methodLink RX0 53 yX0_narrowness, Cond.instanceMethod yX0_narrowness, Cond.selects RX0 yX0_narrowness yX0_narrowness, Cond.code yX0_narrowness cX0_narrowness 4 (some .int), Cond.fieldLink RX0 9 "FifthBeats$Piano" "narrow" "[I", Cond.methodLink RX0 31 yJ9_floorMod_7cf53, Cond.static yJ9_floorMod_7cf53]
def wsL_foresee_r4 : List Cond := [Cond.initialized RJ9, Cond.code yJ9_floorMod_7cf53 cJ9_floorMod_7cf53 3 (some .int), Cond.methodLink RX0 93 yX0_mostMajorOff, Cond.instanceMethod yX0_mostMajorOff, Cond.selects RX0 yX0_mostMajorOff yX0_mostMajorOff, Cond.code yX0_mostMajorOff cX0_mostMajorOff 3 (some .int), Cond.methodLink RX0 96 yX0_pureFifths, Cond.instanceMethod yX0_pureFifths, Cond.selects RX0 yX0_pureFifths yX0_pureFifths, Cond.code yX0_pureFifths cX0_pureFifths 3 (some .int), Cond.methodLink RX0 99 yX0_allOff, Cond.instanceMethod yX0_allOff, Cond.selects RX0 yX0_allOff yX0_allOff, Cond.code yX0_allOff cX0_allOff 3 (some .int), Cond.methodLink RX0 102 yX0_fastestBeats, Cond.instanceMethod yX0_fastestBeats, Cond.selects RX0 yX0_fastestBeats yX0_fastestBeats, Cond.code yX0_fastestBeats cX0_fastestBeats 3 (some .int), Cond.methodLink RX0 74 yX0_fifthBeats, Cond.instanceMethod yX0_fifthBeats, Cond.selects RX0 yX0_fifthBeats yX0_fifthBeats, Cond.code yX0_fifthBeats cX0_fifthBeats 2 (some .int), Cond.methodLink RX0 56 yX0_swings, Cond.instanceMethod yX0_swings]
def wsL_foresee_r5 : List Cond := [Cond.selects RX0 yX0_swings yX0_swings, Cond.code yX0_swings cX0_swings 2 (some .int), Cond.methodLink RX0 65 yX0_keyboardNumber, Cond.instanceMethod yX0_keyboardNumber, Cond.selects RX0 yX0_keyboardNumber yX0_keyboardNumber, Cond.code yX0_keyboardNumber cX0_keyboardNumber 2 (some .int)]
def wsL_foresee : List Cond := .codeWith yL_foresee cL_foresee 5 (some .int) [(0, 10, 13, 15), (0, 10, 17, 13)] :: ((wsL_foresee_r1 ++ (wsL_foresee_r2 ++ (wsL_foresee_r3 ++ (wsL_foresee_r4 ++ wsL_foresee_r5)))) ++ wsX10 ++ wsX00 ++ (vx_atS RX1 155 "java/lang/IllegalArgumentException" ["java/lang/RuntimeException", "java/lang/Exception"]).filter goodWord ++ (vx_atS RX1 148 "java/lang/IndexOutOfBoundsException" ["java/lang/RuntimeException", "java/lang/Exception"]).filter goodWord)
def wsL_until_r1 : List Cond := [Cond.classLink RL 15 "java/lang/IllegalArgumentException", Cond.methodLink RL 62 yX1_until, Cond.instanceMethod yX1_until, Cond.selects RX1 yX1_until yX1_until, Cond.initialized RX1, Cond.code yX1_until cX1_until 3 (some .int), Cond.fieldLink RX1 16 "FifthBeats" "trial" "LFifthBeats$Piano;", Cond.methodLink RX1 23 yX1_checkArgument, Cond.static yX1_checkArgument, Cond.code yX1_checkArgument cX1_checkArgument 3 none, Cond.classLink RX1 151 "java/lang/IllegalArgumentException", Cond.initialized "java/lang/IllegalArgumentException", Cond.methodLink RX1 117 yX1_startTrial, Cond.instanceMethod yX1_startTrial, Cond.selects RX1 yX1_startTrial yX1_startTrial, Cond.code yX1_startTrial cX1_startTrial 2 none, Cond.fieldLink RX1 30 "FifthBeats$Piano" "narrow" "[I", Cond.fieldLink RX1 10 "FifthBeats" "piano" "LFifthBeats$Piano;", Cond.fieldLink RX1 81 "FifthBeats$Piano" "off" "[I", Cond.fieldLink RX1 55 "FifthBeats$Piano" "drift" "[I", Cond.fieldLink RX1 52 "FifthBeats$Piano" "often" "[I", Cond.fieldLink RX1 38 "FifthBeats$Piano" "wolf" "I", Cond.fieldLink RX1 158 "FifthBeats$Piano" "day" "I", Cond.methodLink RX1 120 yX0_fastestBeats]
def wsL_until_r2 : List Cond := [Cond.instanceMethod yX0_fastestBeats, Cond.selects RX0 yX0_fastestBeats yX0_fastestBeats, Cond.initialized RX0, Cond.code yX0_fastestBeats cX0_fastestBeats 3 (some .int), Cond.fieldLink RX0 24 "FifthBeats$Piano" "wolf" "I", Cond.methodLink RX0 50 Lib.Math.max.name, Cond.static Lib.Math.max.name, Cond.initialized "java/lang/Math", Cond.code Lib.Math.max.name Lib.Math.max.code 2 (some .int), Cond.methodLink RX0 74 yX0_fifthBeats, Cond.instanceMethod yX0_fifthBeats, Cond.selects RX0 yX0_fifthBeats yX0_fifthBeats, Cond.code yX0_fifthBeats cX0_fifthBeats 2 (some .int), Cond.methodLink RX0 59 Lib.Math.abs.name, Cond.static Lib.Math.abs.name, Cond.code Lib.Math.abs.name Lib.Math.abs.code 1 (some .int), Cond.methodLink RX0 56 yX0_swings, Cond.instanceMethod yX0_swings, Cond.selects RX0 yX0_swings yX0_swings, Cond.code yX0_swings cX0_swings 2 (some .int), Cond.methodLink RX0 65 yX0_keyboardNumber, Cond.instanceMethod yX0_keyboardNumber, Cond.selects RX0 yX0_keyboardNumber yX0_keyboardNumber, Cond.code yX0_keyboardNumber cX0_keyboardNumber 2 (some .int)]
def wsL_until_r3 : List Cond := [Cond.methodLink RX0 31 yJ9_floorMod_7cf53, Cond.static yJ9_floorMod_7cf53, Cond.initialized RJ9, Cond.code yJ9_floorMod_7cf53 cJ9_floorMod_7cf53 3 (some .int), Cond.methodLink RX0 53 yX0_narrowness, Cond.instanceMethod yX0_narrowness, Cond.selects RX0 yX0_narrowness yX0_narrowness, Cond.code yX0_narrowness cX0_narrowness 4 (some .int), Cond.fieldLink RX0 9 "FifthBeats$Piano" "narrow" "[I", Cond.fieldLink RX0 15 "FifthBeats$Piano" "off" "[I", Cond.methodLink RX1 90 yX0_letPass, Cond.instanceMethod yX0_letPass, Cond.selects RX0 yX0_letPass yX0_letPass, Cond.code yX0_letPass cX0_letPass 4 none, Cond.fieldLink RX0 18 "FifthBeats$Piano" "drift" "[I", Cond.methodLink RX0 47 Lib.Math.min.name, Cond.static Lib.Math.min.name, Cond.code Lib.Math.min.name Lib.Math.min.code 2 (some .int), Cond.fieldLink RX0 28 "FifthBeats$Piano" "day" "I"]
def wsL_until : List Cond := .codeWith yL_until cL_until 4 (some .int) [(0, 9, 12, 15)] :: ((wsL_until_r1 ++ (wsL_until_r2 ++ wsL_until_r3)) ++ wsX10 ++ wsX00 ++ (vx_atS RX1 155 "java/lang/IllegalArgumentException" ["java/lang/RuntimeException", "java/lang/Exception"]).filter goodWord)
def wsL_temper_r1 : List Cond := [Cond.classLink RL 13 "java/lang/IndexOutOfBoundsException", Cond.classLink RL 17 "java/lang/IllegalStateException", Cond.methodLink RL 65 yX1_temper, Cond.instanceMethod yX1_temper, Cond.selects RX1 yX1_temper yX1_temper, Cond.initialized RX1, Cond.code yX1_temper cX1_temper 6 (some .int), Cond.methodLink RX1 19 yX1_checkRing, Cond.static yX1_checkRing, Cond.code yX1_checkRing cX1_checkRing 1 none, Cond.classLink RX1 144 "java/lang/IndexOutOfBoundsException", Cond.initialized "java/lang/IndexOutOfBoundsException", Cond.methodLink RX1 27 yX1_checkNotWolf, Cond.instanceMethod yX1_checkNotWolf, Cond.selects RX1 yX1_checkNotWolf yX1_checkNotWolf, Cond.code yX1_checkNotWolf cX1_checkNotWolf 2 none, Cond.classLink RX1 62 "java/lang/IllegalStateException", Cond.initialized "java/lang/IllegalStateException", Cond.fieldLink RX1 10 "FifthBeats" "piano" "LFifthBeats$Piano;", Cond.fieldLink RX1 38 "FifthBeats$Piano" "wolf" "I", Cond.methodLink RX1 126 yX1_costWithNarrow, Cond.instanceMethod yX1_costWithNarrow, Cond.selects RX1 yX1_costWithNarrow yX1_costWithNarrow, Cond.code yX1_costWithNarrow cX1_costWithNarrow 3 (some .int)]
def wsL_temper_r2 : List Cond := [Cond.fieldLink RX1 16 "FifthBeats" "trial" "LFifthBeats$Piano;", Cond.methodLink RX1 117 yX1_startTrial, Cond.instanceMethod yX1_startTrial, Cond.selects RX1 yX1_startTrial yX1_startTrial, Cond.code yX1_startTrial cX1_startTrial 2 none, Cond.fieldLink RX1 30 "FifthBeats$Piano" "narrow" "[I", Cond.fieldLink RX1 81 "FifthBeats$Piano" "off" "[I", Cond.fieldLink RX1 55 "FifthBeats$Piano" "drift" "[I", Cond.fieldLink RX1 52 "FifthBeats$Piano" "often" "[I", Cond.fieldLink RX1 158 "FifthBeats$Piano" "day" "I", Cond.methodLink RX1 34 yX0_plan, Cond.instanceMethod yX0_plan, Cond.selects RX0 yX0_plan yX0_plan, Cond.initialized RX0, Cond.code yX0_plan cX0_plan 3 none, Cond.fieldLink RX0 9 "FifthBeats$Piano" "narrow" "[I", Cond.methodLink RX0 31 yJ9_floorMod_7cf53, Cond.static yJ9_floorMod_7cf53, Cond.initialized RJ9, Cond.code yJ9_floorMod_7cf53 cJ9_floorMod_7cf53 3 (some .int), Cond.methodLink RX0 37 yX0_giveWolfTheRest, Cond.instanceMethod yX0_giveWolfTheRest, Cond.selects RX0 yX0_giveWolfTheRest yX0_giveWolfTheRest, Cond.code yX0_giveWolfTheRest cX0_giveWolfTheRest 3 none]
def wsL_temper_r3 : List Cond := [Cond.fieldLink RX0 24 "FifthBeats$Piano" "wolf" "I", Cond.methodLink RX1 129 yX0_cost, Cond.instanceMethod yX0_cost, Cond.selects RX0 yX0_cost yX0_cost, Cond.code yX0_cost cX0_cost 3 (some .int), Cond.fieldLink RX0 21 "FifthBeats$Piano" "often" "[I", Cond.methodLink RX0 71 yX0_sourness, Cond.instanceMethod yX0_sourness, Cond.selects RX0 yX0_sourness yX0_sourness, Cond.code yX0_sourness cX0_sourness 2 (some .int), Cond.methodLink RX0 59 Lib.Math.abs.name, Cond.static Lib.Math.abs.name, Cond.initialized "java/lang/Math", Cond.code Lib.Math.abs.name Lib.Math.abs.code 1 (some .int), Cond.methodLink RX0 44 yX0_majorOff, Cond.instanceMethod yX0_majorOff, Cond.selects RX0 yX0_majorOff yX0_majorOff, Cond.code yX0_majorOff cX0_majorOff 4 (some .int), Cond.methodLink RX0 53 yX0_narrowness, Cond.instanceMethod yX0_narrowness, Cond.selects RX0 yX0_narrowness yX0_narrowness, Cond.code yX0_narrowness cX0_narrowness 4 (some .int), Cond.fieldLink RX0 15 "FifthBeats$Piano" "off" "[I"]
def wsL_temper : List Cond := .codeWith yL_temper cL_temper 4 (some .int) [(0, 9, 12, 13), (0, 9, 15, 17)] :: ((wsL_temper_r1 ++ (wsL_temper_r2 ++ wsL_temper_r3)) ++ wsX10 ++ wsX00 ++ (vx_atS RX1 148 "java/lang/IndexOutOfBoundsException" ["java/lang/RuntimeException", "java/lang/Exception"]).filter goodWord ++ (vx_atS RX1 66 "java/lang/IllegalStateException" ["java/lang/RuntimeException", "java/lang/Exception"]).filter goodWord)
def wsL_law0_r1 : List Cond := [Cond.classLink RL 8 RX1, Cond.instantiable RX1 2, Cond.initialized RX1, Cond.classLink RL 69 RX2, Cond.instantiable RX2 7, Cond.initialized RX2, Cond.arrayClass .long, Cond.methodLink RL 68 yX1_init, Cond.instanceMethod yX1_init, Cond.code yX1_init cX1_init 1 none, Cond.methodLink RX1 1 objectInit, Cond.instanceMethod objectInit, Cond.code objectInit ⟨#[0xb1]⟩ 1 none, Cond.classLink RX1 7 RX0, Cond.instantiable RX0 6, Cond.initialized RX0, Cond.fieldLink RX1 10 "FifthBeats" "piano" "LFifthBeats$Piano;", Cond.fieldLink RX1 16 "FifthBeats" "trial" "LFifthBeats$Piano;", Cond.methodLink RX1 9 yX0_init, Cond.instanceMethod yX0_init, Cond.code yX0_init cX0_init 2 none, Cond.methodLink RX0 3 objectInit, Cond.arrayClass .int, Cond.fieldLink RX0 9 "FifthBeats$Piano" "narrow" "[I"]
def wsL_law0_r2 : List Cond := [Cond.fieldLink RX0 15 "FifthBeats$Piano" "off" "[I", Cond.fieldLink RX0 18 "FifthBeats$Piano" "drift" "[I", Cond.fieldLink RX0 21 "FifthBeats$Piano" "often" "[I", Cond.fieldLink RX0 24 "FifthBeats$Piano" "wolf" "I", Cond.fieldLink RX0 28 "FifthBeats$Piano" "day" "I", Cond.methodLink RL 71 yX2_init, Cond.instanceMethod yX2_init, Cond.code yX2_init cX2_init 1 none, Cond.methodLink RX2 1 objectInit, Cond.fieldLink RX2 7 "FifthBeatsModel" "wolf" "I", Cond.fieldLink RX2 13 "FifthBeatsModel" "plan" "[I", Cond.fieldLink RX2 17 "FifthBeatsModel" "drift" "[I", Cond.fieldLink RX2 20 "FifthBeatsModel" "often" "[I", Cond.fieldLink RX2 23 "FifthBeatsModel" "off" "[I", Cond.methodLink RL 72 yL_setFifth, Cond.static yL_setFifth, Cond.initialized RL, Cond.codeWith yL_setFifth cL_setFifth 5 (some .int) [(0, 10, 13, 13), (0, 10, 17, 15), (0, 10, 21, 17)], Cond.classLink RL 13 "java/lang/IndexOutOfBoundsException", Cond.classLink RL 15 "java/lang/IllegalArgumentException", Cond.classLink RL 17 "java/lang/IllegalStateException", Cond.methodLink RL 7 yX1_setFifth, Cond.instanceMethod yX1_setFifth, Cond.selects RX1 yX1_setFifth yX1_setFifth]
def wsL_law0_r3 : List Cond := [Cond.code yX1_setFifth cX1_setFifth 4 (some .int), Cond.fieldLink RX1 30 "FifthBeats$Piano" "narrow" "[I", Cond.methodLink RX1 19 yX1_checkRing, Cond.static yX1_checkRing, Cond.code yX1_checkRing cX1_checkRing 1 none, Cond.classLink RX1 144 "java/lang/IndexOutOfBoundsException", Cond.initialized "java/lang/IndexOutOfBoundsException", Cond.methodLink RX1 23 yX1_checkArgument, Cond.static yX1_checkArgument, Cond.code yX1_checkArgument cX1_checkArgument 3 none, Cond.classLink RX1 151 "java/lang/IllegalArgumentException", Cond.initialized "java/lang/IllegalArgumentException", Cond.methodLink RX1 27 yX1_checkNotWolf, Cond.instanceMethod yX1_checkNotWolf, Cond.selects RX1 yX1_checkNotWolf yX1_checkNotWolf, Cond.code yX1_checkNotWolf cX1_checkNotWolf 2 none, Cond.classLink RX1 62 "java/lang/IllegalStateException", Cond.initialized "java/lang/IllegalStateException", Cond.fieldLink RX1 38 "FifthBeats$Piano" "wolf" "I", Cond.methodLink RX1 34 yX0_plan, Cond.instanceMethod yX0_plan, Cond.selects RX0 yX0_plan yX0_plan, Cond.code yX0_plan cX0_plan 3 none, Cond.methodLink RX0 31 yJ9_floorMod_7cf53]
def wsL_law0_r4 : List Cond := [Cond.static yJ9_floorMod_7cf53, Cond.initialized RJ9, Cond.code yJ9_floorMod_7cf53 cJ9_floorMod_7cf53 3 (some .int), Cond.methodLink RX0 37 yX0_giveWolfTheRest, Cond.instanceMethod yX0_giveWolfTheRest, Cond.selects RX0 yX0_giveWolfTheRest yX0_giveWolfTheRest, Cond.code yX0_giveWolfTheRest cX0_giveWolfTheRest 3 none, Cond.methodLink RL 77 yX2_setFifth, Cond.instanceMethod yX2_setFifth, Cond.selects RX2 yX2_setFifth yX2_setFifth, Cond.code yX2_setFifth cX2_setFifth 4 (some .int), Cond.fieldLink RX2 26 "FifthBeatsModel" "thrown" "I", Cond.methodLink RX2 74 yX2_isOne, Cond.static yX2_isOne, Cond.code yX2_isOne cX2_isOne 1 (some .boolean), Cond.methodLink RX2 29 yX2_isIn, Cond.static yX2_isIn, Cond.code yX2_isIn cX2_isIn 3 (some .boolean), Cond.methodLink RX2 78 yX2_no, Cond.instanceMethod yX2_no, Cond.selects RX2 yX2_no yX2_no, Cond.code yX2_no cX2_no 2 (some .int), Cond.methodLink RL 78 yX2_thrown, Cond.instanceMethod yX2_thrown]
def wsL_law0_r5 : List Cond := [Cond.selects RX2 yX2_thrown yX2_thrown, Cond.code yX2_thrown cX2_thrown 1 (some .int), Cond.methodLink RL 82 yL_shift, Cond.static yL_shift, Cond.codeWith yL_shift cL_shift 4 (some .int) [(0, 9, 12, 13)], Cond.methodLink RL 19 yX1_shift, Cond.instanceMethod yX1_shift, Cond.selects RX1 yX1_shift yX1_shift, Cond.code yX1_shift cX1_shift 3 (some .int), Cond.methodLink RX1 42 yX0_moveWolf, Cond.instanceMethod yX0_moveWolf, Cond.selects RX0 yX0_moveWolf yX0_moveWolf, Cond.code yX0_moveWolf cX0_moveWolf 5 none, Cond.methodLink RL 85 yX2_shift, Cond.instanceMethod yX2_shift, Cond.selects RX2 yX2_shift yX2_shift, Cond.code yX2_shift cX2_shift 3 (some .int), Cond.methodLink RX2 81 yX2_shiftTo, Cond.instanceMethod yX2_shiftTo, Cond.selects RX2 yX2_shiftTo yX2_shiftTo, Cond.code yX2_shiftTo cX2_shiftTo 2 none, Cond.methodLink RX2 46 yX2_planOf, Cond.instanceMethod yX2_planOf, Cond.selects RX2 yX2_planOf yX2_planOf]
def wsL_law0_r6 : List Cond := [Cond.code yX2_planOf cX2_planOf 5 (some .int), Cond.methodLink RL 86 yL_spread, Cond.static yL_spread, Cond.codeWith yL_spread cL_spread 4 (some .int) [(0, 9, 12, 15)], Cond.methodLink RL 23 yX1_spread, Cond.instanceMethod yX1_spread, Cond.selects RX1 yX1_spread yX1_spread, Cond.code yX1_spread cX1_spread 3 (some .int), Cond.methodLink RX1 45 yX0_wolfNarrow, Cond.instanceMethod yX0_wolfNarrow, Cond.selects RX0 yX0_wolfNarrow yX0_wolfNarrow, Cond.code yX0_wolfNarrow cX0_wolfNarrow 1 (some .int), Cond.methodLink RX1 49 yX0_spreadComma, Cond.instanceMethod yX0_spreadComma, Cond.selects RX0 yX0_spreadComma yX0_spreadComma, Cond.code yX0_spreadComma cX0_spreadComma 6 none, Cond.methodLink RL 88 yX2_spread, Cond.instanceMethod yX2_spread, Cond.selects RX2 yX2_spread yX2_spread, Cond.code yX2_spread cX2_spread 4 (some .int), Cond.methodLink RL 89 yL_setOften, Cond.static yL_setOften, Cond.codeWith yL_setOften cL_setOften 5 (some .int) [(0, 10, 13, 13), (0, 10, 17, 15)], Cond.methodLink RL 26 yX1_setOften]
def wsL_law0_r7 : List Cond := [Cond.instanceMethod yX1_setOften, Cond.selects RX1 yX1_setOften yX1_setOften, Cond.code yX1_setOften cX1_setOften 4 (some .int), Cond.fieldLink RX1 52 "FifthBeats$Piano" "often" "[I", Cond.methodLink RL 91 yX2_setOften, Cond.instanceMethod yX2_setOften, Cond.selects RX2 yX2_setOften yX2_setOften, Cond.code yX2_setOften cX2_setOften 4 (some .int), Cond.methodLink RL 92 yL_setDrift, Cond.static yL_setDrift, Cond.codeWith yL_setDrift cL_setDrift 5 (some .int) [(0, 10, 13, 13), (0, 10, 17, 15)], Cond.methodLink RL 29 yX1_setDrift, Cond.instanceMethod yX1_setDrift, Cond.selects RX1 yX1_setDrift yX1_setDrift, Cond.code yX1_setDrift cX1_setDrift 4 (some .int), Cond.fieldLink RX1 55 "FifthBeats$Piano" "drift" "[I", Cond.methodLink RL 94 yX2_setDrift, Cond.instanceMethod yX2_setDrift, Cond.selects RX2 yX2_setDrift yX2_setDrift, Cond.code yX2_setDrift cX2_setDrift 4 (some .int), Cond.methodLink RL 95 yL_tune, Cond.static yL_tune, Cond.codeWith yL_tune cL_tune 4 (some .int) [(0, 9, 12, 13), (0, 9, 15, 17)], Cond.methodLink RL 32 yX1_tune]
def wsL_law0_r8 : List Cond := [Cond.instanceMethod yX1_tune, Cond.selects RX1 yX1_tune yX1_tune, Cond.code yX1_tune cX1_tune 2 (some .int), Cond.methodLink RX1 58 yX0_canTune, Cond.instanceMethod yX0_canTune, Cond.selects RX0 yX0_canTune yX0_canTune, Cond.code yX0_canTune cX0_canTune 2 (some .boolean), Cond.methodLink RX1 69 yX0_tuneOne, Cond.instanceMethod yX0_tuneOne, Cond.selects RX0 yX0_tuneOne yX0_tuneOne, Cond.code yX0_tuneOne cX0_tuneOne 4 (some .int), Cond.methodLink RL 97 yX2_tune, Cond.instanceMethod yX2_tune, Cond.selects RX2 yX2_tune yX2_tune, Cond.code yX2_tune cX2_tune 2 (some .int), Cond.methodLink RX2 88 yX2_canTune, Cond.instanceMethod yX2_canTune, Cond.selects RX2 yX2_canTune yX2_canTune, Cond.code yX2_canTune cX2_canTune 2 (some .boolean), Cond.methodLink RX2 85 yX2_ahead, Cond.static yX2_ahead, Cond.code yX2_ahead cX2_ahead 1 (some .int), Cond.methodLink RX2 91 yX2_tuned, Cond.instanceMethod yX2_tuned]
def wsL_law0_r9 : List Cond := [Cond.selects RX2 yX2_tuned yX2_tuned, Cond.code yX2_tuned cX2_tuned 3 (some .int), Cond.methodLink RL 98 yX1_tuneAll, Cond.instanceMethod yX1_tuneAll, Cond.selects RX1 yX1_tuneAll yX1_tuneAll, Cond.code yX1_tuneAll cX1_tuneAll 1 (some .int), Cond.methodLink RX1 73 yX0_tuneRound, Cond.instanceMethod yX0_tuneRound, Cond.selects RX0 yX0_tuneRound yX0_tuneRound, Cond.code yX0_tuneRound cX0_tuneRound 3 (some .int), Cond.methodLink RX0 40 yX0_tuneOne, Cond.methodLink RL 101 yX2_tuneAll, Cond.instanceMethod yX2_tuneAll, Cond.selects RX2 yX2_tuneAll yX2_tuneAll, Cond.code yX2_tuneAll cX2_tuneAll 3 (some .int), Cond.methodLink RL 102 yL_sweeten, Cond.static yL_sweeten, Cond.codeWith yL_sweeten cL_sweeten 4 (some .int) [(0, 9, 12, 13), (0, 9, 15, 17)], Cond.methodLink RL 35 yX1_sweeten, Cond.instanceMethod yX1_sweeten, Cond.selects RX1 yX1_sweeten yX1_sweeten, Cond.code yX1_sweeten cX1_sweeten 3 (some .int), Cond.fieldLink RX1 81 "FifthBeats$Piano" "off" "[I", Cond.methodLink RX1 76 yX0_offForPureMajor]
def wsL_law0_r10 : List Cond := [Cond.instanceMethod yX0_offForPureMajor, Cond.selects RX0 yX0_offForPureMajor yX0_offForPureMajor, Cond.code yX0_offForPureMajor cX0_offForPureMajor 2 (some .int), Cond.methodLink RX0 44 yX0_majorOff, Cond.instanceMethod yX0_majorOff, Cond.selects RX0 yX0_majorOff yX0_majorOff, Cond.code yX0_majorOff cX0_majorOff 4 (some .int), Cond.methodLink RX0 53 yX0_narrowness, Cond.instanceMethod yX0_narrowness, Cond.selects RX0 yX0_narrowness yX0_narrowness, Cond.code yX0_narrowness cX0_narrowness 4 (some .int), Cond.methodLink RX1 84 yJ9_floorMod_7cf53, Cond.methodLink RL 104 yX2_sweeten, Cond.instanceMethod yX2_sweeten, Cond.selects RX2 yX2_sweeten yX2_sweeten, Cond.code yX2_sweeten cX2_sweeten 4 (some .int), Cond.methodLink RX2 65 yX2_majorOff, Cond.instanceMethod yX2_majorOff, Cond.selects RX2 yX2_majorOff yX2_majorOff, Cond.code yX2_majorOff cX2_majorOff 2 (some .int), Cond.methodLink RX2 49 yX2_narrow, Cond.instanceMethod yX2_narrow, Cond.selects RX2 yX2_narrow yX2_narrow, Cond.code yX2_narrow cX2_narrow 5 (some .int)]
def wsL_law0_r11 : List Cond := [Cond.methodLink RX2 42 yX2_offOf, Cond.instanceMethod yX2_offOf, Cond.selects RX2 yX2_offOf yX2_offOf, Cond.code yX2_offOf cX2_offOf 2 (some .int), Cond.methodLink RX2 94 yX2_held, Cond.static yX2_held, Cond.code yX2_held cX2_held 1 (some .int), Cond.methodLink RX2 33 Lib.Math.min.name, Cond.static Lib.Math.min.name, Cond.initialized "java/lang/Math", Cond.code Lib.Math.min.name Lib.Math.min.code 2 (some .int), Cond.methodLink RX2 39 Lib.Math.max.name, Cond.static Lib.Math.max.name, Cond.code Lib.Math.max.name Lib.Math.max.code 2 (some .int), Cond.methodLink RL 105 yL_pass, Cond.static yL_pass, Cond.codeWith yL_pass cL_pass 4 (some .int) [(0, 9, 12, 15)], Cond.methodLink RL 38 yX1_pass, Cond.instanceMethod yX1_pass, Cond.selects RX1 yX1_pass yX1_pass, Cond.code yX1_pass cX1_pass 2 (some .int), Cond.methodLink RX1 90 yX0_letPass, Cond.instanceMethod yX0_letPass, Cond.selects RX0 yX0_letPass yX0_letPass]
def wsL_law0_r12 : List Cond := [Cond.code yX0_letPass cX0_letPass 4 none, Cond.methodLink RX0 47 Lib.Math.min.name, Cond.methodLink RX0 50 Lib.Math.max.name, Cond.methodLink RX1 93 yX0_mostOff, Cond.instanceMethod yX0_mostOff, Cond.selects RX0 yX0_mostOff yX0_mostOff, Cond.code yX0_mostOff cX0_mostOff 3 (some .int), Cond.methodLink RX0 59 Lib.Math.abs.name, Cond.static Lib.Math.abs.name, Cond.code Lib.Math.abs.name Lib.Math.abs.code 1 (some .int), Cond.methodLink RL 107 yX2_pass_, Cond.instanceMethod yX2_pass_, Cond.selects RX2 yX2_pass_ yX2_pass_, Cond.code yX2_pass_ cX2_pass_ 7 (some .int), Cond.methodLink RX2 58 Lib.Math.abs.name, Cond.methodLink RX2 100 yX2_pass, Cond.instanceMethod yX2_pass, Cond.selects RX2 yX2_pass yX2_pass, Cond.code yX2_pass cX2_pass 2 none, Cond.fieldLink RX2 97 "FifthBeatsModel" "day" "I", Cond.methodLink RL 108 yL_fifth, Cond.static yL_fifth, Cond.codeWith yL_fifth cL_fifth 5 (some .int) [(0, 10, 13, 13)], Cond.methodLink RL 41 yX1_fifth]
def wsL_law0_r13 : List Cond := [Cond.instanceMethod yX1_fifth, Cond.selects RX1 yX1_fifth yX1_fifth, Cond.code yX1_fifth cX1_fifth 3 (some .int), Cond.methodLink RX1 96 yX1_checkWhat, Cond.static yX1_checkWhat, Cond.code yX1_checkWhat cX1_checkWhat 3 none, Cond.methodLink RX1 99 yX0_tellFifth, Cond.instanceMethod yX0_tellFifth, Cond.selects RX0 yX0_tellFifth yX0_tellFifth, Cond.code yX0_tellFifth cX0_tellFifth 4 (some .int), Cond.methodLink RX0 68 yX0_fifthWidth, Cond.instanceMethod yX0_fifthWidth, Cond.selects RX0 yX0_fifthWidth yX0_fifthWidth, Cond.code yX0_fifthWidth cX0_fifthWidth 2 (some .int), Cond.methodLink RX0 74 yX0_fifthBeats, Cond.instanceMethod yX0_fifthBeats, Cond.selects RX0 yX0_fifthBeats yX0_fifthBeats, Cond.code yX0_fifthBeats cX0_fifthBeats 2 (some .int), Cond.methodLink RX0 56 yX0_swings, Cond.instanceMethod yX0_swings, Cond.selects RX0 yX0_swings yX0_swings, Cond.code yX0_swings cX0_swings 2 (some .int), Cond.methodLink RX0 65 yX0_keyboardNumber, Cond.instanceMethod yX0_keyboardNumber]
def wsL_law0_r14 : List Cond := [Cond.selects RX0 yX0_keyboardNumber yX0_keyboardNumber, Cond.code yX0_keyboardNumber cX0_keyboardNumber 2 (some .int), Cond.methodLink RL 110 yX2_fifth, Cond.instanceMethod yX2_fifth, Cond.selects RX2 yX2_fifth yX2_fifth, Cond.code yX2_fifth cX2_fifth 3 (some .int), Cond.methodLink RX2 103 yX2_fifthTold, Cond.instanceMethod yX2_fifthTold, Cond.selects RX2 yX2_fifthTold yX2_fifthTold, Cond.code yX2_fifthTold cX2_fifthTold 3 (some .int), Cond.methodLink RX2 71 yX2_fifthBeats, Cond.instanceMethod yX2_fifthBeats, Cond.selects RX2 yX2_fifthBeats yX2_fifthBeats, Cond.code yX2_fifthBeats cX2_fifthBeats 2 (some .int), Cond.methodLink RX2 61 yX2_beats, Cond.static yX2_beats, Cond.code yX2_beats cX2_beats 3 (some .int), Cond.fieldLink RX2 52 "FifthBeatsModel" "SWINGS" "[I", Cond.methodLink RX2 55 yX2_keyOf, Cond.static yX2_keyOf, Cond.code yX2_keyOf cX2_keyOf 1 (some .int), Cond.methodLink RL 111 yL_major, Cond.static yL_major, Cond.codeWith yL_major cL_major 5 (some .int) [(0, 10, 13, 13)]]
def wsL_law0_r15 : List Cond := [Cond.methodLink RL 44 yX1_major, Cond.instanceMethod yX1_major, Cond.selects RX1 yX1_major yX1_major, Cond.code yX1_major cX1_major 3 (some .int), Cond.methodLink RX1 102 yX0_tellMajor, Cond.instanceMethod yX0_tellMajor, Cond.selects RX0 yX0_tellMajor yX0_tellMajor, Cond.code yX0_tellMajor cX0_tellMajor 3 (some .int), Cond.methodLink RX0 77 yX0_majorBeats, Cond.instanceMethod yX0_majorBeats, Cond.selects RX0 yX0_majorBeats yX0_majorBeats, Cond.code yX0_majorBeats cX0_majorBeats 2 (some .int), Cond.methodLink RL 113 yX2_major, Cond.instanceMethod yX2_major, Cond.selects RX2 yX2_major yX2_major, Cond.code yX2_major cX2_major 3 (some .int), Cond.methodLink RX2 106 yX2_majorTold, Cond.instanceMethod yX2_majorTold, Cond.selects RX2 yX2_majorTold yX2_majorTold, Cond.code yX2_majorTold cX2_majorTold 3 (some .int), Cond.methodLink RL 114 yL_minor, Cond.static yL_minor, Cond.codeWith yL_minor cL_minor 5 (some .int) [(0, 10, 13, 13)], Cond.methodLink RL 47 yX1_minor]
def wsL_law0_r16 : List Cond := [Cond.instanceMethod yX1_minor, Cond.selects RX1 yX1_minor yX1_minor, Cond.code yX1_minor cX1_minor 3 (some .int), Cond.methodLink RX1 105 yX0_tellMinor, Cond.instanceMethod yX0_tellMinor, Cond.selects RX0 yX0_tellMinor yX0_tellMinor, Cond.code yX0_tellMinor cX0_tellMinor 4 (some .int), Cond.methodLink RX0 80 yX0_minorWidth, Cond.instanceMethod yX0_minorWidth, Cond.selects RX0 yX0_minorWidth yX0_minorWidth, Cond.code yX0_minorWidth cX0_minorWidth 4 (some .int), Cond.methodLink RL 116 yX2_minor, Cond.instanceMethod yX2_minor, Cond.selects RX2 yX2_minor yX2_minor, Cond.code yX2_minor cX2_minor 3 (some .int), Cond.methodLink RX2 112 yX2_minorTold, Cond.instanceMethod yX2_minorTold, Cond.selects RX2 yX2_minorTold yX2_minorTold, Cond.code yX2_minorTold cX2_minorTold 3 (some .int), Cond.methodLink RX2 109 yX2_minorOff, Cond.instanceMethod yX2_minorOff, Cond.selects RX2 yX2_minorOff yX2_minorOff, Cond.code yX2_minorOff cX2_minorOff 2 (some .int), Cond.methodLink RL 117 yL_note]
def wsL_law0_r17 : List Cond := [Cond.static yL_note, Cond.codeWith yL_note cL_note 5 (some .int) [(0, 10, 13, 13)], Cond.methodLink RL 50 yX1_note, Cond.instanceMethod yX1_note, Cond.selects RX1 yX1_note yX1_note, Cond.code yX1_note cX1_note 3 (some .int), Cond.methodLink RX1 108 yX0_tellNote, Cond.instanceMethod yX0_tellNote, Cond.selects RX0 yX0_tellNote yX0_tellNote, Cond.code yX0_tellNote cX0_tellNote 4 (some .int), Cond.methodLink RX0 83 yX0_height, Cond.instanceMethod yX0_height, Cond.selects RX0 yX0_height yX0_height, Cond.code yX0_height cX0_height 4 (some .int), Cond.methodLink RL 119 yX2_note, Cond.instanceMethod yX2_note, Cond.selects RX2 yX2_note yX2_note, Cond.code yX2_note cX2_note 3 (some .int), Cond.methodLink RX2 118 yX2_noteTold, Cond.instanceMethod yX2_noteTold, Cond.selects RX2 yX2_noteTold yX2_noteTold, Cond.code yX2_noteTold cX2_noteTold 3 (some .int), Cond.methodLink RX2 115 yJ9_floorMod_7cf53, Cond.methodLink RL 120 yL_key]
def wsL_law0_r18 : List Cond := [Cond.static yL_key, Cond.codeWith yL_key cL_key 5 (some .int) [(0, 10, 13, 13)], Cond.methodLink RL 53 yX1_key, Cond.instanceMethod yX1_key, Cond.selects RX1 yX1_key yX1_key, Cond.code yX1_key cX1_key 3 (some .int), Cond.methodLink RX1 111 yX0_tellKey, Cond.instanceMethod yX0_tellKey, Cond.selects RX0 yX0_tellKey yX0_tellKey, Cond.code yX0_tellKey cX0_tellKey 4 (some .int), Cond.methodLink RX0 71 yX0_sourness, Cond.instanceMethod yX0_sourness, Cond.selects RX0 yX0_sourness yX0_sourness, Cond.code yX0_sourness cX0_sourness 2 (some .int), Cond.methodLink RX0 86 yX0_place, Cond.instanceMethod yX0_place, Cond.selects RX0 yX0_place yX0_place, Cond.code yX0_place cX0_place 6 (some .int), Cond.methodLink RL 122 yX2_key, Cond.instanceMethod yX2_key, Cond.selects RX2 yX2_key yX2_key, Cond.code yX2_key cX2_key 3 (some .int), Cond.methodLink RX2 124 yX2_keyTold, Cond.instanceMethod yX2_keyTold]
def wsL_law0_r19 : List Cond := [Cond.selects RX2 yX2_keyTold yX2_keyTold, Cond.code yX2_keyTold cX2_keyTold 3 (some .int), Cond.methodLink RX2 68 yX2_sour, Cond.instanceMethod yX2_sour, Cond.selects RX2 yX2_sour yX2_sour, Cond.code yX2_sour cX2_sour 2 (some .int), Cond.methodLink RX2 121 yX2_place, Cond.instanceMethod yX2_place, Cond.selects RX2 yX2_place yX2_place, Cond.code yX2_place cX2_place 4 (some .int), Cond.methodLink RL 123 yL_count, Cond.static yL_count, Cond.codeWith yL_count cL_count 4 (some .int) [(0, 9, 12, 13)], Cond.methodLink RL 56 yX1_count, Cond.instanceMethod yX1_count, Cond.selects RX1 yX1_count yX1_count, Cond.code yX1_count cX1_count 2 (some .int), Cond.methodLink RX1 114 yX0_tellCount, Cond.instanceMethod yX0_tellCount, Cond.selects RX0 yX0_tellCount yX0_tellCount, Cond.code yX0_tellCount cX0_tellCount 2 (some .int), Cond.methodLink RX0 89 yX0_cost, Cond.instanceMethod yX0_cost, Cond.selects RX0 yX0_cost yX0_cost]
def wsL_law0_r20 : List Cond := [Cond.code yX0_cost cX0_cost 3 (some .int), Cond.methodLink RX0 93 yX0_mostMajorOff, Cond.instanceMethod yX0_mostMajorOff, Cond.selects RX0 yX0_mostMajorOff yX0_mostMajorOff, Cond.code yX0_mostMajorOff cX0_mostMajorOff 3 (some .int), Cond.methodLink RX0 96 yX0_pureFifths, Cond.instanceMethod yX0_pureFifths, Cond.selects RX0 yX0_pureFifths yX0_pureFifths, Cond.code yX0_pureFifths cX0_pureFifths 3 (some .int), Cond.methodLink RX0 99 yX0_allOff, Cond.instanceMethod yX0_allOff, Cond.selects RX0 yX0_allOff yX0_allOff, Cond.code yX0_allOff cX0_allOff 3 (some .int), Cond.methodLink RX0 102 yX0_fastestBeats, Cond.instanceMethod yX0_fastestBeats, Cond.selects RX0 yX0_fastestBeats yX0_fastestBeats, Cond.code yX0_fastestBeats cX0_fastestBeats 3 (some .int), Cond.methodLink RL 125 yX2_count, Cond.instanceMethod yX2_count, Cond.selects RX2 yX2_count yX2_count, Cond.code yX2_count cX2_count 2 (some .int), Cond.methodLink RX2 134 yX2_counted, Cond.instanceMethod yX2_counted, Cond.selects RX2 yX2_counted yX2_counted]
def wsL_law0_r21 : List Cond := [Cond.code yX2_counted cX2_counted 7 (some .int), Cond.methodLink RX2 127 yX2_costs, Cond.instanceMethod yX2_costs, Cond.selects RX2 yX2_costs yX2_costs, Cond.code yX2_costs cX2_costs 3 (some .int), Cond.methodLink RX2 131 yX2_fastest, Cond.instanceMethod yX2_fastest, Cond.selects RX2 yX2_fastest yX2_fastest, Cond.code yX2_fastest cX2_fastest 3 (some .int), Cond.methodLink RL 126 yL_foresee, Cond.static yL_foresee, Cond.codeWith yL_foresee cL_foresee 5 (some .int) [(0, 10, 13, 15), (0, 10, 17, 13)], Cond.methodLink RL 59 yX1_foresee, Cond.instanceMethod yX1_foresee, Cond.selects RX1 yX1_foresee yX1_foresee, Cond.code yX1_foresee cX1_foresee 3 (some .int), Cond.methodLink RX1 117 yX1_startTrial, Cond.instanceMethod yX1_startTrial, Cond.selects RX1 yX1_startTrial yX1_startTrial, Cond.code yX1_startTrial cX1_startTrial 2 none, Cond.fieldLink RX1 158 "FifthBeats$Piano" "day" "I", Cond.methodLink RL 128 yX2_foresee, Cond.instanceMethod yX2_foresee, Cond.selects RX2 yX2_foresee yX2_foresee]
def wsL_law0_r22 : List Cond := [Cond.code yX2_foresee cX2_foresee 6 (some .int), Cond.methodLink RX2 143 yX2_copyOf, Cond.instanceMethod yX2_copyOf, Cond.selects RX2 yX2_copyOf yX2_copyOf, Cond.code yX2_copyOf cX2_copyOf 3 (some (.array .int)), Cond.methodLink RX2 137 arraycopyName, Cond.native arraycopyName, Cond.static arraycopyName, Cond.initialized "java/lang/System", Cond.methodLink RL 129 yL_until, Cond.static yL_until, Cond.codeWith yL_until cL_until 4 (some .int) [(0, 9, 12, 15)], Cond.methodLink RL 62 yX1_until, Cond.instanceMethod yX1_until, Cond.selects RX1 yX1_until yX1_until, Cond.code yX1_until cX1_until 3 (some .int), Cond.methodLink RX1 120 yX0_fastestBeats, Cond.methodLink RL 131 yX2_until, Cond.instanceMethod yX2_until, Cond.selects RX2 yX2_until yX2_until, Cond.code yX2_until cX2_until 5 (some .int), Cond.methodLink RL 132 yX1_advise, Cond.instanceMethod yX1_advise, Cond.selects RX1 yX1_advise yX1_advise]
def wsL_law0_r23 : List Cond := [Cond.code yX1_advise cX1_advise 5 (some .int), Cond.methodLink RX1 123 yX1_costWithWolf, Cond.instanceMethod yX1_costWithWolf, Cond.selects RX1 yX1_costWithWolf yX1_costWithWolf, Cond.code yX1_costWithWolf cX1_costWithWolf 2 (some .int), Cond.methodLink RX1 129 yX0_cost, Cond.methodLink RL 135 yX2_advise, Cond.instanceMethod yX2_advise, Cond.selects RX2 yX2_advise yX2_advise, Cond.code yX2_advise cX2_advise 6 (some .int), Cond.methodLink RL 136 yL_temper, Cond.static yL_temper, Cond.codeWith yL_temper cL_temper 4 (some .int) [(0, 9, 12, 13), (0, 9, 15, 17)], Cond.methodLink RL 65 yX1_temper, Cond.instanceMethod yX1_temper, Cond.selects RX1 yX1_temper yX1_temper, Cond.code yX1_temper cX1_temper 6 (some .int), Cond.methodLink RX1 126 yX1_costWithNarrow, Cond.instanceMethod yX1_costWithNarrow, Cond.selects RX1 yX1_costWithNarrow yX1_costWithNarrow, Cond.code yX1_costWithNarrow cX1_costWithNarrow 3 (some .int), Cond.methodLink RL 138 yX2_temper, Cond.instanceMethod yX2_temper, Cond.selects RX2 yX2_temper yX2_temper]
def wsL_law0_r24 : List Cond := [Cond.code yX2_temper cX2_temper 7 (some .int), Cond.methodLink RL 139 yX1_next, Cond.instanceMethod yX1_next, Cond.selects RX1 yX1_next yX1_next, Cond.code yX1_next cX1_next 5 (some .int), Cond.methodLink RX1 132 yX1_costWithTuned, Cond.instanceMethod yX1_costWithTuned, Cond.selects RX1 yX1_costWithTuned yX1_costWithTuned, Cond.code yX1_costWithTuned cX1_costWithTuned 2 (some .int), Cond.methodLink RL 142 yX2_next, Cond.instanceMethod yX2_next, Cond.selects RX2 yX2_next yX2_next, Cond.code yX2_next cX2_next 6 (some .int), Cond.methodLink RL 143 yX1_mean, Cond.instanceMethod yX1_mean, Cond.selects RX1 yX1_mean yX1_mean, Cond.code yX1_mean cX1_mean 3 (some .double), Cond.constantDouble RX1 138 (4622945017495814144), Cond.methodLink RX1 135 yX0_sourness, Cond.methodLink RL 147 yX2_mean, Cond.instanceMethod yX2_mean, Cond.selects RX2 yX2_mean yX2_mean, Cond.code yX2_mean cX2_mean 3 (some .double), Cond.constantDouble RX2 147 (4622945017495814144)]
def wsL_law0_r25 : List Cond := [Cond.methodLink RL 148 yX1_digest, Cond.instanceMethod yX1_digest, Cond.selects RX1 yX1_digest yX1_digest, Cond.code yX1_digest cX1_digest 5 (some .long), Cond.constantLong RX1 140 (1697), Cond.constantLong RX1 142 (31), Cond.methodLink RL 152 yX2_digest, Cond.instanceMethod yX2_digest, Cond.selects RX2 yX2_digest yX2_digest, Cond.code yX2_digest cX2_digest 5 (some .long), Cond.constantLong RX2 149 (1697), Cond.constantLong RX2 151 (31)]
def wsL_law0 : List Cond := (wsL_law0_r1 ++ (wsL_law0_r2 ++ (wsL_law0_r3 ++ (wsL_law0_r4 ++ (wsL_law0_r5 ++ (wsL_law0_r6 ++ (wsL_law0_r7 ++ (wsL_law0_r8 ++ (wsL_law0_r9 ++ (wsL_law0_r10 ++ (wsL_law0_r11 ++ (wsL_law0_r12 ++ (wsL_law0_r13 ++ (wsL_law0_r14 ++ (wsL_law0_r15 ++ (wsL_law0_r16 ++ (wsL_law0_r17 ++ (wsL_law0_r18 ++ (wsL_law0_r19 ++ (wsL_law0_r20 ++ (wsL_law0_r21 ++ (wsL_law0_r22 ++ (wsL_law0_r23 ++ (wsL_law0_r24 ++ wsL_law0_r25)))))))))))))))))))))))) ++ wsX10 ++ wsX20 ++ wsX00 ++ ([] : List Cond)
def wsL_law : List Cond := wsL_law0 ++ (vx_atS RX1 148 "java/lang/IndexOutOfBoundsException" ["java/lang/RuntimeException", "java/lang/Exception"]).filter goodWord ++ (vx_atS RX1 155 "java/lang/IllegalArgumentException" ["java/lang/RuntimeException", "java/lang/Exception"]).filter goodWord ++ (vx_atS RX1 66 "java/lang/IllegalStateException" ["java/lang/RuntimeException", "java/lang/Exception"]).filter goodWord
end
section
theorem fb_in_of {big ws : List Cond} (ps : List Nat) (hp : ws = ps.filterMap (fun i => big[i]?)) : ∀ w ∈ ws, w ∈ big := by
  intro w hw
  rw [hp] at hw
  obtain ⟨i, -, hi⟩ := List.mem_filterMap.mp hw
  exact List.mem_of_getElem? hi
theorem fb_in_app {big a b : List Cond} (ha : ∀ w ∈ a, w ∈ big) (hb : ∀ w ∈ b, w ∈ big) : ∀ w ∈ a ++ b, w ∈ big := fun w h => (List.mem_append.mp h).elim (ha w) (hb w)
set_option maxRecDepth 100000 in
theorem in_wsL_law0_r1 : ∀ w ∈ wsL_law0_r1, w ∈ lw_tbl := fb_in_of [40, 41, 29, 515, 516, 31, 753, 42, 43, 44, 45, 46, 47, 48, 49, 30, 80, 81, 50, 51, 52, 53, 79, 54] rfl
set_option maxRecDepth 100000 in
theorem in_wsL_law0_r2 : ∀ w ∈ wsL_law0_r2, w ∈ lw_tbl := fb_in_of [56, 58, 60, 62, 64, 517, 518, 519, 520, 523, 524, 525, 526, 527, 240, 241, 28, 242, 243, 244, 245, 246, 247, 248] rfl
set_option maxRecDepth 100000 in
theorem in_wsL_law0_r3 : ∀ w ∈ wsL_law0_r3, w ∈ lw_tbl := fb_in_of [249, 55, 250, 251, 252, 253, 35, 321, 322, 323, 324, 36, 340, 342, 4, 343, 344, 37, 63, 360, 361, 362, 363, 99] rfl
set_option maxRecDepth 100000 in
theorem in_wsL_law0_r4 : ∀ w ∈ wsL_law0_r4, w ∈ lw_tbl := fb_in_of [100, 38, 101, 364, 365, 366, 367, 547, 548, 549, 550, 521, 551, 552, 553, 554, 555, 556, 557, 559, 6, 560, 543, 544] rfl
set_option maxRecDepth 100000 in
theorem in_wsL_law0_r5 : ∀ w ∈ wsL_law0_r5, w ∈ lw_tbl := fb_in_of [545, 546, 368, 369, 370, 371, 372, 373, 374, 114, 115, 116, 117, 561, 562, 563, 564, 565, 567, 7, 568, 569, 571, 8] rfl
set_option maxRecDepth 100000 in
theorem in_wsL_law0_r6 : ∀ w ∈ wsL_law0_r6, w ∈ lw_tbl := fb_in_of [572, 375, 376, 377, 378, 379, 380, 381, 382, 383, 384, 385, 386, 387, 388, 389, 573, 574, 575, 576, 390, 391, 392, 393] rfl
set_option maxRecDepth 100000 in
theorem in_wsL_law0_r7 : ∀ w ∈ wsL_law0_r7, w ∈ lw_tbl := fb_in_of [394, 395, 396, 61, 577, 578, 579, 580, 397, 398, 399, 400, 401, 402, 403, 59, 581, 582, 583, 584, 404, 405, 406, 407] rfl
set_option maxRecDepth 100000 in
theorem in_wsL_law0_r8 : ∀ w ∈ wsL_law0_r8, w ∈ lw_tbl := fb_in_of [408, 409, 410, 141, 142, 143, 144, 149, 96, 97, 98, 585, 586, 587, 588, 589, 591, 9, 592, 593, 594, 595, 596, 598] rfl
set_option maxRecDepth 100000 in
theorem in_wsL_law0_r9 : ∀ w ∈ wsL_law0_r9, w ∈ lw_tbl := fb_in_of [10, 599, 87, 88, 89, 90, 91, 92, 93, 94, 95, 600, 601, 602, 603, 412, 413, 414, 415, 416, 417, 418, 57, 419] rfl
set_option maxRecDepth 100000 in
theorem in_wsL_law0_r10 : ∀ w ∈ wsL_law0_r10, w ∈ lw_tbl := fb_in_of [420, 421, 422, 126, 127, 128, 129, 130, 131, 132, 133, 424, 604, 605, 606, 607, 608, 610, 11, 611, 612, 614, 12, 615] rfl
set_option maxRecDepth 100000 in
theorem in_wsL_law0_r11 : ∀ w ∈ wsL_law0_r11, w ∈ lw_tbl := fb_in_of [616, 618, 13, 619, 620, 621, 622, 623, 437, 38, 438, 624, 172, 173, 425, 426, 427, 428, 429, 430, 431, 432, 433, 434] rfl
set_option maxRecDepth 100000 in
theorem in_wsL_law0_r12 : ∀ w ∈ wsL_law0_r12, w ∈ lw_tbl := fb_in_of [435, 436, 171, 439, 440, 441, 442, 134, 135, 136, 625, 626, 627, 628, 633, 629, 631, 14, 632, 522, 443, 444, 445, 446] rfl
set_option maxRecDepth 100000 in
theorem in_wsL_law0_r13 : ∀ w ∈ wsL_law0_r13, w ∈ lw_tbl := fb_in_of [447, 448, 449, 450, 451, 452, 200, 201, 202, 203, 204, 205, 206, 207, 186, 187, 188, 189, 190, 191, 192, 193, 196, 197] rfl
set_option maxRecDepth 100000 in
theorem in_wsL_law0_r14 : ∀ w ∈ wsL_law0_r14, w ∈ lw_tbl := fb_in_of [198, 199, 634, 635, 636, 637, 638, 640, 15, 641, 642, 644, 16, 645, 646, 647, 648, 649, 651, 652, 653, 454, 455, 456] rfl
set_option maxRecDepth 100000 in
theorem in_wsL_law0_r15 : ∀ w ∈ wsL_law0_r15, w ∈ lw_tbl := fb_in_of [457, 458, 459, 460, 208, 209, 210, 211, 212, 213, 214, 215, 654, 655, 656, 657, 658, 660, 17, 661, 461, 462, 463, 464] rfl
set_option maxRecDepth 100000 in
theorem in_wsL_law0_r16 : ∀ w ∈ wsL_law0_r16, w ∈ lw_tbl := fb_in_of [465, 466, 467, 216, 217, 218, 219, 220, 221, 222, 223, 662, 663, 664, 665, 666, 668, 18, 669, 670, 672, 19, 673, 468] rfl
set_option maxRecDepth 100000 in
theorem in_wsL_law0_r17 : ∀ w ∈ wsL_law0_r17, w ∈ lw_tbl := fb_in_of [469, 470, 471, 472, 473, 474, 224, 225, 226, 227, 228, 229, 230, 231, 674, 675, 676, 677, 678, 680, 20, 681, 682, 475] rfl
set_option maxRecDepth 100000 in
theorem in_wsL_law0_r18 : ∀ w ∈ wsL_law0_r18, w ∈ lw_tbl := fb_in_of [476, 477, 478, 479, 480, 481, 232, 233, 234, 235, 122, 123, 124, 125, 236, 237, 238, 239, 683, 684, 685, 686, 687, 689] rfl
set_option maxRecDepth 100000 in
theorem in_wsL_law0_r19 : ∀ w ∈ wsL_law0_r19, w ∈ lw_tbl := fb_in_of [21, 690, 691, 693, 22, 694, 695, 697, 23, 698, 482, 483, 484, 485, 486, 487, 488, 162, 163, 164, 165, 166, 119, 120] rfl
set_option maxRecDepth 100000 in
theorem in_wsL_law0_r20 : ∀ w ∈ wsL_law0_r20, w ∈ lw_tbl := fb_in_of [121, 167, 168, 169, 170, 174, 175, 176, 177, 178, 179, 180, 181, 182, 183, 184, 185, 699, 700, 701, 702, 703, 705, 24] rfl
set_option maxRecDepth 100000 in
theorem in_wsL_law0_r21 : ∀ w ∈ wsL_law0_r21, w ∈ lw_tbl := fb_in_of [706, 707, 709, 25, 710, 711, 713, 26, 714, 489, 490, 491, 492, 493, 494, 495, 110, 112, 1, 113, 65, 715, 716, 717] rfl
set_option maxRecDepth 100000 in
theorem in_wsL_law0_r22 : ∀ w ∈ wsL_law0_r22, w ∈ lw_tbl := fb_in_of [718, 719, 721, 27, 722, 723, 725, 724, 39, 496, 497, 498, 499, 500, 501, 502, 503, 726, 727, 728, 729, 102, 103, 104] rfl
set_option maxRecDepth 100000 in
theorem in_wsL_law0_r23 : ∀ w ∈ wsL_law0_r23, w ∈ lw_tbl := fb_in_of [105, 106, 108, 0, 109, 118, 730, 731, 732, 733, 504, 505, 506, 507, 508, 509, 510, 511, 513, 5, 514, 734, 735, 736] rfl
set_option maxRecDepth 100000 in
theorem in_wsL_law0_r24 : ∀ w ∈ wsL_law0_r24, w ∈ lw_tbl := fb_in_of [737, 137, 138, 139, 140, 145, 147, 2, 148, 738, 739, 740, 741, 150, 151, 152, 153, 155, 154, 742, 743, 744, 745, 746] rfl
set_option maxRecDepth 100000 in
theorem in_wsL_law0_r25 : ∀ w ∈ wsL_law0_r25, w ∈ lw_tbl := fb_in_of [156, 157, 158, 159, 160, 161, 747, 748, 749, 750, 751, 752] rfl
theorem in_wsX10 : ∀ w ∈ wsX10, w ∈ lw_tbl := by decide +kernel
theorem in_wsX20 : ∀ w ∈ wsX20, w ∈ lw_tbl := by decide +kernel
theorem in_wsX00 : ∀ w ∈ wsX00, w ∈ lw_tbl := by decide +kernel
theorem wsL_law_in0 : ∀ w ∈ wsL_law0, w ∈ lw_tbl := fb_in_app (fb_in_app (fb_in_app (fb_in_app (fb_in_app in_wsL_law0_r1 (fb_in_app in_wsL_law0_r2 (fb_in_app in_wsL_law0_r3 (fb_in_app in_wsL_law0_r4 (fb_in_app in_wsL_law0_r5 (fb_in_app in_wsL_law0_r6 (fb_in_app in_wsL_law0_r7 (fb_in_app in_wsL_law0_r8 (fb_in_app in_wsL_law0_r9 (fb_in_app in_wsL_law0_r10 (fb_in_app in_wsL_law0_r11 (fb_in_app in_wsL_law0_r12 (fb_in_app in_wsL_law0_r13 (fb_in_app in_wsL_law0_r14 (fb_in_app in_wsL_law0_r15 (fb_in_app in_wsL_law0_r16 (fb_in_app in_wsL_law0_r17 (fb_in_app in_wsL_law0_r18 (fb_in_app in_wsL_law0_r19 (fb_in_app in_wsL_law0_r20 (fb_in_app in_wsL_law0_r21 (fb_in_app in_wsL_law0_r22 (fb_in_app in_wsL_law0_r23 (fb_in_app in_wsL_law0_r24 (in_wsL_law0_r25))))))))))))))))))))))))) in_wsX10) in_wsX20) in_wsX00) (fun _ h => absurd h List.not_mem_nil)
theorem wsL_law_x0 : ∀ w ∈ (vx_atS RX1 148 "java/lang/IndexOutOfBoundsException" ["java/lang/RuntimeException", "java/lang/Exception"]).filter goodWord, w ∈ lw_tbl := by decide +kernel
theorem wsL_law_x1 : ∀ w ∈ (vx_atS RX1 155 "java/lang/IllegalArgumentException" ["java/lang/RuntimeException", "java/lang/Exception"]).filter goodWord, w ∈ lw_tbl := by decide +kernel
theorem wsL_law_x2 : ∀ w ∈ (vx_atS RX1 66 "java/lang/IllegalStateException" ["java/lang/RuntimeException", "java/lang/Exception"]).filter goodWord, w ∈ lw_tbl := by decide +kernel
theorem wsL_law_in : ∀ w ∈ wsL_law, w ∈ lw_tbl := fun w h => (List.mem_append.mp h).elim (fun h => (List.mem_append.mp h).elim (fun h => (List.mem_append.mp h).elim (fun h => wsL_law_in0 w h) (fun h => wsL_law_x0 w h)) (fun h => wsL_law_x1 w h)) (fun h => wsL_law_x2 w h)
theorem inlX0 : ∀ w ∈ wsX00, w ∈ wsL_law := fun _ h => List.mem_append_left _ (List.mem_append_left _ (List.mem_append_left _ (List.mem_append_left _ (List.mem_append_right _ h))))
theorem inX0 : ∀ w ∈ wsX00, w ∈ lw_tbl := fun w h => wsL_law_in w (inlX0 w h)
theorem inlX1 : ∀ w ∈ wsX10, w ∈ wsL_law := fun _ h => List.mem_append_left _ (List.mem_append_left _ (List.mem_append_left _ (List.mem_append_left _ (List.mem_append_left _ (List.mem_append_left _ (List.mem_append_right _ h))))))
theorem inX1 : ∀ w ∈ wsX10, w ∈ lw_tbl := fun w h => wsL_law_in w (inlX1 w h)
theorem inlX2 : ∀ w ∈ wsX20, w ∈ wsL_law := fun _ h => List.mem_append_left _ (List.mem_append_left _ (List.mem_append_left _ (List.mem_append_left _ (List.mem_append_left _ (List.mem_append_right _ h)))))
theorem inX2 : ∀ w ∈ wsX20, w ∈ lw_tbl := fun w h => wsL_law_in w (inlX2 w h)
theorem inJ9 : ∀ w ∈ wsJ90, w ∈ lw_tbl := by decide +kernel
theorem inJ0 : ∀ w ∈ wsJ00, w ∈ lw_tbl := by decide +kernel
theorem inJ10 : ∀ w ∈ wsJ100, w ∈ lw_tbl := by decide +kernel
end
section
theorem dX0_init_0 : decode cX0_init 0 = .ok (.aload_n 0, 1) := by decide +kernel
theorem dX0_init_1 : decode cX0_init 1 = .ok (.invokespecial 3, 3) := by decide +kernel
theorem dX0_init_4 : decode cX0_init 4 = .ok (.aload_n 0, 1) := by decide +kernel
theorem dX0_init_5 : decode cX0_init 5 = .ok (.bipush 12, 2) := by decide +kernel
theorem dX0_init_7 : decode cX0_init 7 = .ok (.newarray .int, 2) := by decide +kernel
theorem dX0_init_9 : decode cX0_init 9 = .ok (.putfield 9, 3) := by decide +kernel
theorem dX0_init_12 : decode cX0_init 12 = .ok (.aload_n 0, 1) := by decide +kernel
theorem dX0_init_13 : decode cX0_init 13 = .ok (.bipush 12, 2) := by decide +kernel
theorem dX0_init_15 : decode cX0_init 15 = .ok (.newarray .int, 2) := by decide +kernel
theorem dX0_init_17 : decode cX0_init 17 = .ok (.putfield 15, 3) := by decide +kernel
theorem dX0_init_20 : decode cX0_init 20 = .ok (.aload_n 0, 1) := by decide +kernel
theorem dX0_init_21 : decode cX0_init 21 = .ok (.bipush 12, 2) := by decide +kernel
theorem dX0_init_23 : decode cX0_init 23 = .ok (.newarray .int, 2) := by decide +kernel
theorem dX0_init_25 : decode cX0_init 25 = .ok (.putfield 18, 3) := by decide +kernel
theorem dX0_init_28 : decode cX0_init 28 = .ok (.aload_n 0, 1) := by decide +kernel
theorem dX0_init_29 : decode cX0_init 29 = .ok (.bipush 12, 2) := by decide +kernel
theorem dX0_init_31 : decode cX0_init 31 = .ok (.newarray .int, 2) := by decide +kernel
theorem dX0_init_33 : decode cX0_init 33 = .ok (.putfield 21, 3) := by decide +kernel
theorem dX0_init_36 : decode cX0_init 36 = .ok (.iconst 0, 1) := by decide +kernel
theorem dX0_init_37 : decode cX0_init 37 = .ok (.istore_n 1, 1) := by decide +kernel
theorem dX0_init_38 : decode cX0_init 38 = .ok (.iload_n 1, 1) := by decide +kernel
theorem dX0_init_39 : decode cX0_init 39 = .ok (.bipush 12, 2) := by decide +kernel
theorem dX0_init_41 : decode cX0_init 41 = .ok (.if_icmp .ge 16, 3) := by decide +kernel
theorem dX0_init_44 : decode cX0_init 44 = .ok (.aload_n 0, 1) := by decide +kernel
theorem dX0_init_45 : decode cX0_init 45 = .ok (.getfield 21, 3) := by decide +kernel
theorem dX0_init_48 : decode cX0_init 48 = .ok (.iload_n 1, 1) := by decide +kernel
theorem dX0_init_49 : decode cX0_init 49 = .ok (.iconst 1, 1) := by decide +kernel
theorem dX0_init_50 : decode cX0_init 50 = .ok (.iastore, 1) := by decide +kernel
theorem dX0_init_51 : decode cX0_init 51 = .ok (.iinc 1 1, 3) := by decide +kernel
theorem dX0_init_54 : decode cX0_init 54 = .ok (.goto (-16), 3) := by decide +kernel
theorem dX0_init_57 : decode cX0_init 57 = .ok (.aload_n 0, 1) := by decide +kernel
theorem dX0_init_58 : decode cX0_init 58 = .ok (.bipush 11, 2) := by decide +kernel
theorem dX0_init_60 : decode cX0_init 60 = .ok (.putfield 24, 3) := by decide +kernel
theorem dX0_init_63 : decode cX0_init 63 = .ok (.aload_n 0, 1) := by decide +kernel
theorem dX0_init_64 : decode cX0_init 64 = .ok (.iconst 0, 1) := by decide +kernel
theorem dX0_init_65 : decode cX0_init 65 = .ok (.putfield 28, 3) := by decide +kernel
theorem dX0_init_68 : decode cX0_init 68 = .ok (.aload_n 0, 1) := by decide +kernel
theorem dX0_init_69 : decode cX0_init 69 = .ok (.getfield 9, 3) := by decide +kernel
theorem dX0_init_72 : decode cX0_init 72 = .ok (.bipush 11, 2) := by decide +kernel
theorem dX0_init_74 : decode cX0_init 74 = .ok (.bipush 24, 2) := by decide +kernel
theorem dX0_init_76 : decode cX0_init 76 = .ok (.iastore, 1) := by decide +kernel
theorem dX0_init_77 : decode cX0_init 77 = .ok (.return_, 1) := by decide +kernel
set_option maxRecDepth 20000 in
theorem ggX0_plan_J9_floorMod_7cf53 : GoodIn wsX0_plan wsJ9_floorMod_7cf53 := goodIn_r _ [5] (by decide +kernel) (by decide +kernel)
set_option maxRecDepth 20000 in
theorem gX0_plan_J9_floorMod_7cf53 : GoodIn wsX0_plan (va_wsS RX0 31 yJ9_floorMod_7cf53 wsJ9_floorMod_7cf53) := goodIn_app (goodIn_of _ (by decide +kernel)) ggX0_plan_J9_floorMod_7cf53
set_option maxRecDepth 20000 in
theorem ggX0_plan_X0_giveWolfTheRest : GoodIn wsX0_plan wsX0_giveWolfTheRest := goodIn_r _ [10, 11, 1, 2, 3, 4, 5, 12, 13, 14, 15, 16, 17] (by decide +kernel) (by decide +kernel)
set_option maxRecDepth 20000 in
theorem gX0_plan_X0_giveWolfTheRest : GoodIn wsX0_plan (wsV RX0 37 RX0 yX0_giveWolfTheRest wsX0_giveWolfTheRest) := goodIn_app (goodIn_of _ (by decide +kernel)) ggX0_plan_X0_giveWolfTheRest
theorem dX0_plan_0 : decode cX0_plan 0 = .ok (.aload_n 0, 1) := by decide +kernel
theorem dX0_plan_1 : decode cX0_plan 1 = .ok (.getfield 9, 3) := by decide +kernel
theorem dX0_plan_4 : decode cX0_plan 4 = .ok (.iload_n 1, 1) := by decide +kernel
theorem dX0_plan_5 : decode cX0_plan 5 = .ok (.bipush 12, 2) := by decide +kernel
theorem dX0_plan_7 : decode cX0_plan 7 = .ok (.invokestatic 31, 3) := by decide +kernel
theorem dX0_plan_10 : decode cX0_plan 10 = .ok (.iload_n 2, 1) := by decide +kernel
theorem dX0_plan_11 : decode cX0_plan 11 = .ok (.iastore, 1) := by decide +kernel
theorem dX0_plan_12 : decode cX0_plan 12 = .ok (.aload_n 0, 1) := by decide +kernel
theorem dX0_plan_13 : decode cX0_plan 13 = .ok (.invokevirtual 37, 3) := by decide +kernel
theorem dX0_plan_16 : decode cX0_plan 16 = .ok (.return_, 1) := by decide +kernel
set_option maxRecDepth 20000 in
theorem ggX0_giveWolfTheRest_J9_floorMod_7cf53 : GoodIn wsX0_giveWolfTheRest wsJ9_floorMod_7cf53 := goodIn_r _ [6] (by decide +kernel) (by decide +kernel)
set_option maxRecDepth 20000 in
theorem gX0_giveWolfTheRest_J9_floorMod_7cf53 : GoodIn wsX0_giveWolfTheRest (va_wsS RX0 31 yJ9_floorMod_7cf53 wsJ9_floorMod_7cf53) := goodIn_app (goodIn_of _ (by decide +kernel)) ggX0_giveWolfTheRest_J9_floorMod_7cf53
theorem dX0_giveWolfTheRest_0 : decode cX0_giveWolfTheRest 0 = .ok (.bipush 24, 2) := by decide +kernel
theorem dX0_giveWolfTheRest_2 : decode cX0_giveWolfTheRest 2 = .ok (.istore_n 1, 1) := by decide +kernel
theorem dX0_giveWolfTheRest_3 : decode cX0_giveWolfTheRest 3 = .ok (.iconst 0, 1) := by decide +kernel
theorem dX0_giveWolfTheRest_4 : decode cX0_giveWolfTheRest 4 = .ok (.istore_n 2, 1) := by decide +kernel
theorem dX0_giveWolfTheRest_5 : decode cX0_giveWolfTheRest 5 = .ok (.iload_n 2, 1) := by decide +kernel
theorem dX0_giveWolfTheRest_6 : decode cX0_giveWolfTheRest 6 = .ok (.bipush 12, 2) := by decide +kernel
theorem dX0_giveWolfTheRest_8 : decode cX0_giveWolfTheRest 8 = .ok (.if_icmp .ge 26, 3) := by decide +kernel
theorem dX0_giveWolfTheRest_11 : decode cX0_giveWolfTheRest 11 = .ok (.iload_n 2, 1) := by decide +kernel
theorem dX0_giveWolfTheRest_12 : decode cX0_giveWolfTheRest 12 = .ok (.aload_n 0, 1) := by decide +kernel
theorem dX0_giveWolfTheRest_13 : decode cX0_giveWolfTheRest 13 = .ok (.getfield 24, 3) := by decide +kernel
theorem dX0_giveWolfTheRest_16 : decode cX0_giveWolfTheRest 16 = .ok (.if_icmp .eq 12, 3) := by decide +kernel
theorem dX0_giveWolfTheRest_19 : decode cX0_giveWolfTheRest 19 = .ok (.iload_n 1, 1) := by decide +kernel
theorem dX0_giveWolfTheRest_20 : decode cX0_giveWolfTheRest 20 = .ok (.aload_n 0, 1) := by decide +kernel
theorem dX0_giveWolfTheRest_21 : decode cX0_giveWolfTheRest 21 = .ok (.getfield 9, 3) := by decide +kernel
theorem dX0_giveWolfTheRest_24 : decode cX0_giveWolfTheRest 24 = .ok (.iload_n 2, 1) := by decide +kernel
theorem dX0_giveWolfTheRest_25 : decode cX0_giveWolfTheRest 25 = .ok (.iaload, 1) := by decide +kernel
theorem dX0_giveWolfTheRest_26 : decode cX0_giveWolfTheRest 26 = .ok (.isub, 1) := by decide +kernel
theorem dX0_giveWolfTheRest_27 : decode cX0_giveWolfTheRest 27 = .ok (.istore_n 1, 1) := by decide +kernel
theorem dX0_giveWolfTheRest_28 : decode cX0_giveWolfTheRest 28 = .ok (.iinc 2 1, 3) := by decide +kernel
theorem dX0_giveWolfTheRest_31 : decode cX0_giveWolfTheRest 31 = .ok (.goto (-26), 3) := by decide +kernel
theorem dX0_giveWolfTheRest_34 : decode cX0_giveWolfTheRest 34 = .ok (.aload_n 0, 1) := by decide +kernel
theorem dX0_giveWolfTheRest_35 : decode cX0_giveWolfTheRest 35 = .ok (.getfield 9, 3) := by decide +kernel
theorem dX0_giveWolfTheRest_38 : decode cX0_giveWolfTheRest 38 = .ok (.aload_n 0, 1) := by decide +kernel
theorem dX0_giveWolfTheRest_39 : decode cX0_giveWolfTheRest 39 = .ok (.getfield 24, 3) := by decide +kernel
theorem dX0_giveWolfTheRest_42 : decode cX0_giveWolfTheRest 42 = .ok (.bipush 12, 2) := by decide +kernel
theorem dX0_giveWolfTheRest_44 : decode cX0_giveWolfTheRest 44 = .ok (.invokestatic 31, 3) := by decide +kernel
theorem dX0_giveWolfTheRest_47 : decode cX0_giveWolfTheRest 47 = .ok (.iload_n 1, 1) := by decide +kernel
theorem dX0_giveWolfTheRest_48 : decode cX0_giveWolfTheRest 48 = .ok (.iastore, 1) := by decide +kernel
theorem dX0_giveWolfTheRest_49 : decode cX0_giveWolfTheRest 49 = .ok (.return_, 1) := by decide +kernel
set_option maxRecDepth 20000 in
theorem ggX0_wolfNarrow_J9_floorMod_7cf53 : GoodIn wsX0_wolfNarrow wsJ9_floorMod_7cf53 := goodIn_r _ [6] (by decide +kernel) (by decide +kernel)
set_option maxRecDepth 20000 in
theorem gX0_wolfNarrow_J9_floorMod_7cf53 : GoodIn wsX0_wolfNarrow (va_wsS RX0 31 yJ9_floorMod_7cf53 wsJ9_floorMod_7cf53) := goodIn_app (goodIn_of _ (by decide +kernel)) ggX0_wolfNarrow_J9_floorMod_7cf53
theorem dX0_wolfNarrow_0 : decode cX0_wolfNarrow 0 = .ok (.aload_n 0, 1) := by decide +kernel
theorem dX0_wolfNarrow_1 : decode cX0_wolfNarrow 1 = .ok (.getfield 9, 3) := by decide +kernel
theorem dX0_wolfNarrow_4 : decode cX0_wolfNarrow 4 = .ok (.aload_n 0, 1) := by decide +kernel
theorem dX0_wolfNarrow_5 : decode cX0_wolfNarrow 5 = .ok (.getfield 24, 3) := by decide +kernel
theorem dX0_wolfNarrow_8 : decode cX0_wolfNarrow 8 = .ok (.bipush 12, 2) := by decide +kernel
theorem dX0_wolfNarrow_10 : decode cX0_wolfNarrow 10 = .ok (.invokestatic 31, 3) := by decide +kernel
theorem dX0_wolfNarrow_13 : decode cX0_wolfNarrow 13 = .ok (.iaload, 1) := by decide +kernel
theorem dX0_wolfNarrow_14 : decode cX0_wolfNarrow 14 = .ok (.ireturn, 1) := by decide +kernel
set_option maxRecDepth 20000 in
theorem ggX0_moveWolf_J9_floorMod_7cf53 : GoodIn wsX0_moveWolf wsJ9_floorMod_7cf53 := goodIn_r _ [6] (by decide +kernel) (by decide +kernel)
set_option maxRecDepth 20000 in
theorem gX0_moveWolf_J9_floorMod_7cf53 : GoodIn wsX0_moveWolf (va_wsS RX0 31 yJ9_floorMod_7cf53 wsJ9_floorMod_7cf53) := goodIn_app (goodIn_of _ (by decide +kernel)) ggX0_moveWolf_J9_floorMod_7cf53
theorem dX0_moveWolf_0 : decode cX0_moveWolf 0 = .ok (.aload_n 0, 1) := by decide +kernel
theorem dX0_moveWolf_1 : decode cX0_moveWolf 1 = .ok (.getfield 24, 3) := by decide +kernel
theorem dX0_moveWolf_4 : decode cX0_moveWolf 4 = .ok (.bipush 12, 2) := by decide +kernel
theorem dX0_moveWolf_6 : decode cX0_moveWolf 6 = .ok (.invokestatic 31, 3) := by decide +kernel
theorem dX0_moveWolf_9 : decode cX0_moveWolf 9 = .ok (.istore_n 2, 1) := by decide +kernel
theorem dX0_moveWolf_10 : decode cX0_moveWolf 10 = .ok (.iload_n 1, 1) := by decide +kernel
theorem dX0_moveWolf_11 : decode cX0_moveWolf 11 = .ok (.bipush 12, 2) := by decide +kernel
theorem dX0_moveWolf_13 : decode cX0_moveWolf 13 = .ok (.invokestatic 31, 3) := by decide +kernel
theorem dX0_moveWolf_16 : decode cX0_moveWolf 16 = .ok (.istore_n 3, 1) := by decide +kernel
theorem dX0_moveWolf_17 : decode cX0_moveWolf 17 = .ok (.aload_n 0, 1) := by decide +kernel
theorem dX0_moveWolf_18 : decode cX0_moveWolf 18 = .ok (.getfield 9, 3) := by decide +kernel
theorem dX0_moveWolf_21 : decode cX0_moveWolf 21 = .ok (.iload_n 3, 1) := by decide +kernel
theorem dX0_moveWolf_22 : decode cX0_moveWolf 22 = .ok (.iaload, 1) := by decide +kernel
theorem dX0_moveWolf_23 : decode cX0_moveWolf 23 = .ok (.istore 4, 2) := by decide +kernel
theorem dX0_moveWolf_25 : decode cX0_moveWolf 25 = .ok (.aload_n 0, 1) := by decide +kernel
theorem dX0_moveWolf_26 : decode cX0_moveWolf 26 = .ok (.getfield 9, 3) := by decide +kernel
theorem dX0_moveWolf_29 : decode cX0_moveWolf 29 = .ok (.iload_n 3, 1) := by decide +kernel
theorem dX0_moveWolf_30 : decode cX0_moveWolf 30 = .ok (.aload_n 0, 1) := by decide +kernel
theorem dX0_moveWolf_31 : decode cX0_moveWolf 31 = .ok (.getfield 9, 3) := by decide +kernel
theorem dX0_moveWolf_34 : decode cX0_moveWolf 34 = .ok (.iload_n 2, 1) := by decide +kernel
theorem dX0_moveWolf_35 : decode cX0_moveWolf 35 = .ok (.iaload, 1) := by decide +kernel
theorem dX0_moveWolf_36 : decode cX0_moveWolf 36 = .ok (.iastore, 1) := by decide +kernel
theorem dX0_moveWolf_37 : decode cX0_moveWolf 37 = .ok (.aload_n 0, 1) := by decide +kernel
theorem dX0_moveWolf_38 : decode cX0_moveWolf 38 = .ok (.getfield 9, 3) := by decide +kernel
theorem dX0_moveWolf_41 : decode cX0_moveWolf 41 = .ok (.iload_n 2, 1) := by decide +kernel
theorem dX0_moveWolf_42 : decode cX0_moveWolf 42 = .ok (.iload 4, 2) := by decide +kernel
theorem dX0_moveWolf_44 : decode cX0_moveWolf 44 = .ok (.iastore, 1) := by decide +kernel
theorem dX0_moveWolf_45 : decode cX0_moveWolf 45 = .ok (.aload_n 0, 1) := by decide +kernel
theorem dX0_moveWolf_46 : decode cX0_moveWolf 46 = .ok (.iload_n 3, 1) := by decide +kernel
theorem dX0_moveWolf_47 : decode cX0_moveWolf 47 = .ok (.putfield 24, 3) := by decide +kernel
theorem dX0_moveWolf_50 : decode cX0_moveWolf 50 = .ok (.return_, 1) := by decide +kernel
set_option maxRecDepth 20000 in
theorem ggX0_spreadComma_J9_floorMod_7cf53 : GoodIn wsX0_spreadComma wsJ9_floorMod_7cf53 := goodIn_r _ [6] (by decide +kernel) (by decide +kernel)
set_option maxRecDepth 20000 in
theorem gX0_spreadComma_J9_floorMod_7cf53 : GoodIn wsX0_spreadComma (va_wsS RX0 31 yJ9_floorMod_7cf53 wsJ9_floorMod_7cf53) := goodIn_app (goodIn_of _ (by decide +kernel)) ggX0_spreadComma_J9_floorMod_7cf53
set_option maxRecDepth 20000 in
theorem ggX0_spreadComma_X0_giveWolfTheRest : GoodIn wsX0_spreadComma wsX0_giveWolfTheRest := goodIn_r _ [11, 2, 1, 3, 4, 5, 6, 12, 13, 14, 15, 16, 17] (by decide +kernel) (by decide +kernel)
set_option maxRecDepth 20000 in
theorem gX0_spreadComma_X0_giveWolfTheRest : GoodIn wsX0_spreadComma (wsV RX0 37 RX0 yX0_giveWolfTheRest wsX0_giveWolfTheRest) := goodIn_app (goodIn_of _ (by decide +kernel)) ggX0_spreadComma_X0_giveWolfTheRest
theorem dX0_spreadComma_0 : decode cX0_spreadComma 0 = .ok (.iload_n 1, 1) := by decide +kernel
theorem dX0_spreadComma_1 : decode cX0_spreadComma 1 = .ok (.iconst 1, 1) := by decide +kernel
theorem dX0_spreadComma_2 : decode cX0_spreadComma 2 = .ok (.if_icmp .ge 4, 3) := by decide +kernel
theorem dX0_spreadComma_5 : decode cX0_spreadComma 5 = .ok (.return_, 1) := by decide +kernel
theorem dX0_spreadComma_6 : decode cX0_spreadComma 6 = .ok (.bipush 24, 2) := by decide +kernel
theorem dX0_spreadComma_8 : decode cX0_spreadComma 8 = .ok (.iload_n 1, 1) := by decide +kernel
theorem dX0_spreadComma_9 : decode cX0_spreadComma 9 = .ok (.idiv, 1) := by decide +kernel
theorem dX0_spreadComma_10 : decode cX0_spreadComma 10 = .ok (.istore_n 2, 1) := by decide +kernel
theorem dX0_spreadComma_11 : decode cX0_spreadComma 11 = .ok (.bipush 24, 2) := by decide +kernel
theorem dX0_spreadComma_13 : decode cX0_spreadComma 13 = .ok (.iload_n 1, 1) := by decide +kernel
theorem dX0_spreadComma_14 : decode cX0_spreadComma 14 = .ok (.irem, 1) := by decide +kernel
theorem dX0_spreadComma_15 : decode cX0_spreadComma 15 = .ok (.istore_n 3, 1) := by decide +kernel
theorem dX0_spreadComma_16 : decode cX0_spreadComma 16 = .ok (.iconst 0, 1) := by decide +kernel
theorem dX0_spreadComma_17 : decode cX0_spreadComma 17 = .ok (.istore 4, 2) := by decide +kernel
theorem dX0_spreadComma_19 : decode cX0_spreadComma 19 = .ok (.iload 4, 2) := by decide +kernel
theorem dX0_spreadComma_21 : decode cX0_spreadComma 21 = .ok (.bipush 11, 2) := by decide +kernel
theorem dX0_spreadComma_23 : decode cX0_spreadComma 23 = .ok (.if_icmp .ge 56, 3) := by decide +kernel
theorem dX0_spreadComma_26 : decode cX0_spreadComma 26 = .ok (.iload 4, 2) := by decide +kernel
theorem dX0_spreadComma_28 : decode cX0_spreadComma 28 = .ok (.iload_n 1, 1) := by decide +kernel
theorem dX0_spreadComma_29 : decode cX0_spreadComma 29 = .ok (.if_icmp .ge 7, 3) := by decide +kernel
theorem dX0_spreadComma_32 : decode cX0_spreadComma 32 = .ok (.iload_n 2, 1) := by decide +kernel
theorem dX0_spreadComma_33 : decode cX0_spreadComma 33 = .ok (.goto 4, 3) := by decide +kernel
theorem dX0_spreadComma_36 : decode cX0_spreadComma 36 = .ok (.iconst 0, 1) := by decide +kernel
theorem dX0_spreadComma_37 : decode cX0_spreadComma 37 = .ok (.istore 5, 2) := by decide +kernel
theorem dX0_spreadComma_39 : decode cX0_spreadComma 39 = .ok (.aload_n 0, 1) := by decide +kernel
theorem dX0_spreadComma_40 : decode cX0_spreadComma 40 = .ok (.getfield 9, 3) := by decide +kernel
theorem dX0_spreadComma_43 : decode cX0_spreadComma 43 = .ok (.aload_n 0, 1) := by decide +kernel
theorem dX0_spreadComma_44 : decode cX0_spreadComma 44 = .ok (.getfield 24, 3) := by decide +kernel
theorem dX0_spreadComma_47 : decode cX0_spreadComma 47 = .ok (.iconst 1, 1) := by decide +kernel
theorem dX0_spreadComma_48 : decode cX0_spreadComma 48 = .ok (.iadd, 1) := by decide +kernel
theorem dX0_spreadComma_49 : decode cX0_spreadComma 49 = .ok (.iload 4, 2) := by decide +kernel
theorem dX0_spreadComma_51 : decode cX0_spreadComma 51 = .ok (.iadd, 1) := by decide +kernel
theorem dX0_spreadComma_52 : decode cX0_spreadComma 52 = .ok (.bipush 12, 2) := by decide +kernel
theorem dX0_spreadComma_54 : decode cX0_spreadComma 54 = .ok (.invokestatic 31, 3) := by decide +kernel
theorem dX0_spreadComma_57 : decode cX0_spreadComma 57 = .ok (.iload 4, 2) := by decide +kernel
theorem dX0_spreadComma_59 : decode cX0_spreadComma 59 = .ok (.iload_n 3, 1) := by decide +kernel
theorem dX0_spreadComma_60 : decode cX0_spreadComma 60 = .ok (.if_icmp .ge 10, 3) := by decide +kernel
theorem dX0_spreadComma_63 : decode cX0_spreadComma 63 = .ok (.iload 5, 2) := by decide +kernel
theorem dX0_spreadComma_65 : decode cX0_spreadComma 65 = .ok (.iconst 1, 1) := by decide +kernel
theorem dX0_spreadComma_66 : decode cX0_spreadComma 66 = .ok (.iadd, 1) := by decide +kernel
theorem dX0_spreadComma_67 : decode cX0_spreadComma 67 = .ok (.goto 5, 3) := by decide +kernel
theorem dX0_spreadComma_70 : decode cX0_spreadComma 70 = .ok (.iload 5, 2) := by decide +kernel
theorem dX0_spreadComma_72 : decode cX0_spreadComma 72 = .ok (.iastore, 1) := by decide +kernel
theorem dX0_spreadComma_73 : decode cX0_spreadComma 73 = .ok (.iinc 4 1, 3) := by decide +kernel
theorem dX0_spreadComma_76 : decode cX0_spreadComma 76 = .ok (.goto (-57), 3) := by decide +kernel
theorem dX0_spreadComma_79 : decode cX0_spreadComma 79 = .ok (.aload_n 0, 1) := by decide +kernel
theorem dX0_spreadComma_80 : decode cX0_spreadComma 80 = .ok (.invokevirtual 37, 3) := by decide +kernel
theorem dX0_spreadComma_83 : decode cX0_spreadComma 83 = .ok (.return_, 1) := by decide +kernel
set_option maxRecDepth 20000 in
theorem ggX0_canTune_J9_floorMod_7cf53 : GoodIn wsX0_canTune wsJ9_floorMod_7cf53 := goodIn_r _ [5] (by decide +kernel) (by decide +kernel)
set_option maxRecDepth 20000 in
theorem gX0_canTune_J9_floorMod_7cf53 : GoodIn wsX0_canTune (va_wsS RX0 31 yJ9_floorMod_7cf53 wsJ9_floorMod_7cf53) := goodIn_app (goodIn_of _ (by decide +kernel)) ggX0_canTune_J9_floorMod_7cf53
theorem dX0_canTune_0 : decode cX0_canTune 0 = .ok (.iload_n 1, 1) := by decide +kernel
theorem dX0_canTune_1 : decode cX0_canTune 1 = .ok (.iconst 1, 1) := by decide +kernel
theorem dX0_canTune_2 : decode cX0_canTune 2 = .ok (.isub, 1) := by decide +kernel
theorem dX0_canTune_3 : decode cX0_canTune 3 = .ok (.bipush 12, 2) := by decide +kernel
theorem dX0_canTune_5 : decode cX0_canTune 5 = .ok (.invokestatic 31, 3) := by decide +kernel
theorem dX0_canTune_8 : decode cX0_canTune 8 = .ok (.aload_n 0, 1) := by decide +kernel
theorem dX0_canTune_9 : decode cX0_canTune 9 = .ok (.getfield 24, 3) := by decide +kernel
theorem dX0_canTune_12 : decode cX0_canTune 12 = .ok (.if_icmp .eq 7, 3) := by decide +kernel
theorem dX0_canTune_15 : decode cX0_canTune 15 = .ok (.iconst 1, 1) := by decide +kernel
theorem dX0_canTune_16 : decode cX0_canTune 16 = .ok (.goto 4, 3) := by decide +kernel
theorem dX0_canTune_19 : decode cX0_canTune 19 = .ok (.iconst 0, 1) := by decide +kernel
theorem dX0_canTune_20 : decode cX0_canTune 20 = .ok (.ireturn, 1) := by decide +kernel
set_option maxRecDepth 20000 in
theorem ggX0_tuneOne_J9_floorMod_7cf53 : GoodIn wsX0_tuneOne wsJ9_floorMod_7cf53 := goodIn_r _ [5] (by decide +kernel) (by decide +kernel)
set_option maxRecDepth 20000 in
theorem gX0_tuneOne_J9_floorMod_7cf53 : GoodIn wsX0_tuneOne (va_wsS RX0 31 yJ9_floorMod_7cf53 wsJ9_floorMod_7cf53) := goodIn_app (goodIn_of _ (by decide +kernel)) ggX0_tuneOne_J9_floorMod_7cf53
theorem dX0_tuneOne_0 : decode cX0_tuneOne 0 = .ok (.iload_n 1, 1) := by decide +kernel
theorem dX0_tuneOne_1 : decode cX0_tuneOne 1 = .ok (.bipush 12, 2) := by decide +kernel
theorem dX0_tuneOne_3 : decode cX0_tuneOne 3 = .ok (.invokestatic 31, 3) := by decide +kernel
theorem dX0_tuneOne_6 : decode cX0_tuneOne 6 = .ok (.istore_n 2, 1) := by decide +kernel
theorem dX0_tuneOne_7 : decode cX0_tuneOne 7 = .ok (.aload_n 0, 1) := by decide +kernel
theorem dX0_tuneOne_8 : decode cX0_tuneOne 8 = .ok (.getfield 15, 3) := by decide +kernel
theorem dX0_tuneOne_11 : decode cX0_tuneOne 11 = .ok (.iload_n 2, 1) := by decide +kernel
theorem dX0_tuneOne_12 : decode cX0_tuneOne 12 = .ok (.iaload, 1) := by decide +kernel
theorem dX0_tuneOne_13 : decode cX0_tuneOne 13 = .ok (.istore_n 3, 1) := by decide +kernel
theorem dX0_tuneOne_14 : decode cX0_tuneOne 14 = .ok (.aload_n 0, 1) := by decide +kernel
theorem dX0_tuneOne_15 : decode cX0_tuneOne 15 = .ok (.getfield 15, 3) := by decide +kernel
theorem dX0_tuneOne_18 : decode cX0_tuneOne 18 = .ok (.iload_n 2, 1) := by decide +kernel
theorem dX0_tuneOne_19 : decode cX0_tuneOne 19 = .ok (.aload_n 0, 1) := by decide +kernel
theorem dX0_tuneOne_20 : decode cX0_tuneOne 20 = .ok (.getfield 15, 3) := by decide +kernel
theorem dX0_tuneOne_23 : decode cX0_tuneOne 23 = .ok (.iload_n 2, 1) := by decide +kernel
theorem dX0_tuneOne_24 : decode cX0_tuneOne 24 = .ok (.iconst 1, 1) := by decide +kernel
theorem dX0_tuneOne_25 : decode cX0_tuneOne 25 = .ok (.isub, 1) := by decide +kernel
theorem dX0_tuneOne_26 : decode cX0_tuneOne 26 = .ok (.bipush 12, 2) := by decide +kernel
theorem dX0_tuneOne_28 : decode cX0_tuneOne 28 = .ok (.invokestatic 31, 3) := by decide +kernel
theorem dX0_tuneOne_31 : decode cX0_tuneOne 31 = .ok (.iaload, 1) := by decide +kernel
theorem dX0_tuneOne_32 : decode cX0_tuneOne 32 = .ok (.iastore, 1) := by decide +kernel
theorem dX0_tuneOne_33 : decode cX0_tuneOne 33 = .ok (.aload_n 0, 1) := by decide +kernel
theorem dX0_tuneOne_34 : decode cX0_tuneOne 34 = .ok (.getfield 15, 3) := by decide +kernel
theorem dX0_tuneOne_37 : decode cX0_tuneOne 37 = .ok (.iload_n 2, 1) := by decide +kernel
theorem dX0_tuneOne_38 : decode cX0_tuneOne 38 = .ok (.iaload, 1) := by decide +kernel
theorem dX0_tuneOne_39 : decode cX0_tuneOne 39 = .ok (.iload_n 3, 1) := by decide +kernel
theorem dX0_tuneOne_40 : decode cX0_tuneOne 40 = .ok (.isub, 1) := by decide +kernel
theorem dX0_tuneOne_41 : decode cX0_tuneOne 41 = .ok (.ireturn, 1) := by decide +kernel
set_option maxRecDepth 20000 in
theorem ggX0_tuneRound_X0_tuneOne : GoodIn wsX0_tuneRound wsX0_tuneOne := goodIn_r _ [6, 7, 8, 9, 10, 11, 12, 13, 14, 15, 16, 17] (by decide +kernel) (by decide +kernel)
set_option maxRecDepth 20000 in
theorem gX0_tuneRound_X0_tuneOne : GoodIn wsX0_tuneRound (wsV RX0 40 RX0 yX0_tuneOne wsX0_tuneOne) := goodIn_app (goodIn_of _ (by decide +kernel)) ggX0_tuneRound_X0_tuneOne
theorem dX0_tuneRound_0 : decode cX0_tuneRound 0 = .ok (.iconst 0, 1) := by decide +kernel
theorem dX0_tuneRound_1 : decode cX0_tuneRound 1 = .ok (.istore_n 1, 1) := by decide +kernel
theorem dX0_tuneRound_2 : decode cX0_tuneRound 2 = .ok (.iconst 2, 1) := by decide +kernel
theorem dX0_tuneRound_3 : decode cX0_tuneRound 3 = .ok (.istore_n 2, 1) := by decide +kernel
theorem dX0_tuneRound_4 : decode cX0_tuneRound 4 = .ok (.iload_n 2, 1) := by decide +kernel
theorem dX0_tuneRound_5 : decode cX0_tuneRound 5 = .ok (.bipush 12, 2) := by decide +kernel
theorem dX0_tuneRound_7 : decode cX0_tuneRound 7 = .ok (.if_icmp .gt 25, 3) := by decide +kernel
theorem dX0_tuneRound_10 : decode cX0_tuneRound 10 = .ok (.aload_n 0, 1) := by decide +kernel
theorem dX0_tuneRound_11 : decode cX0_tuneRound 11 = .ok (.aload_n 0, 1) := by decide +kernel
theorem dX0_tuneRound_12 : decode cX0_tuneRound 12 = .ok (.getfield 24, 3) := by decide +kernel
theorem dX0_tuneRound_15 : decode cX0_tuneRound 15 = .ok (.iload_n 2, 1) := by decide +kernel
theorem dX0_tuneRound_16 : decode cX0_tuneRound 16 = .ok (.iadd, 1) := by decide +kernel
theorem dX0_tuneRound_17 : decode cX0_tuneRound 17 = .ok (.invokevirtual 40, 3) := by decide +kernel
theorem dX0_tuneRound_20 : decode cX0_tuneRound 20 = .ok (.ifCond .eq 6, 3) := by decide +kernel
theorem dX0_tuneRound_23 : decode cX0_tuneRound 23 = .ok (.iinc 1 1, 3) := by decide +kernel
theorem dX0_tuneRound_26 : decode cX0_tuneRound 26 = .ok (.iinc 2 1, 3) := by decide +kernel
theorem dX0_tuneRound_29 : decode cX0_tuneRound 29 = .ok (.goto (-25), 3) := by decide +kernel
theorem dX0_tuneRound_32 : decode cX0_tuneRound 32 = .ok (.iload_n 1, 1) := by decide +kernel
theorem dX0_tuneRound_33 : decode cX0_tuneRound 33 = .ok (.ireturn, 1) := by decide +kernel
set_option maxRecDepth 20000 in
theorem ggX0_offForPureMajor_J9_floorMod_7cf53 : GoodIn wsX0_offForPureMajor wsJ9_floorMod_7cf53 := goodIn_r _ [5] (by decide +kernel) (by decide +kernel)
set_option maxRecDepth 20000 in
theorem gX0_offForPureMajor_J9_floorMod_7cf53 : GoodIn wsX0_offForPureMajor (va_wsS RX0 31 yJ9_floorMod_7cf53 wsJ9_floorMod_7cf53) := goodIn_app (goodIn_of _ (by decide +kernel)) ggX0_offForPureMajor_J9_floorMod_7cf53
set_option maxRecDepth 20000 in
theorem ggX0_offForPureMajor_X0_majorOff : GoodIn wsX0_offForPureMajor wsX0_majorOff := goodIn_r _ [10, 11, 12, 13, 9, 14, 15, 1, 2, 3, 4, 5, 16, 17, 18, 19, 20, 21] (by decide +kernel) (by decide +kernel)
set_option maxRecDepth 20000 in
theorem gX0_offForPureMajor_X0_majorOff : GoodIn wsX0_offForPureMajor (wsV RX0 44 RX0 yX0_majorOff wsX0_majorOff) := goodIn_app (goodIn_of _ (by decide +kernel)) ggX0_offForPureMajor_X0_majorOff
theorem dX0_offForPureMajor_0 : decode cX0_offForPureMajor 0 = .ok (.aload_n 0, 1) := by decide +kernel
theorem dX0_offForPureMajor_1 : decode cX0_offForPureMajor 1 = .ok (.getfield 15, 3) := by decide +kernel
theorem dX0_offForPureMajor_4 : decode cX0_offForPureMajor 4 = .ok (.iload_n 1, 1) := by decide +kernel
theorem dX0_offForPureMajor_5 : decode cX0_offForPureMajor 5 = .ok (.iconst 4, 1) := by decide +kernel
theorem dX0_offForPureMajor_6 : decode cX0_offForPureMajor 6 = .ok (.iadd, 1) := by decide +kernel
theorem dX0_offForPureMajor_7 : decode cX0_offForPureMajor 7 = .ok (.bipush 12, 2) := by decide +kernel
theorem dX0_offForPureMajor_9 : decode cX0_offForPureMajor 9 = .ok (.invokestatic 31, 3) := by decide +kernel
theorem dX0_offForPureMajor_12 : decode cX0_offForPureMajor 12 = .ok (.iaload, 1) := by decide +kernel
theorem dX0_offForPureMajor_13 : decode cX0_offForPureMajor 13 = .ok (.aload_n 0, 1) := by decide +kernel
theorem dX0_offForPureMajor_14 : decode cX0_offForPureMajor 14 = .ok (.iload_n 1, 1) := by decide +kernel
theorem dX0_offForPureMajor_15 : decode cX0_offForPureMajor 15 = .ok (.invokevirtual 44, 3) := by decide +kernel
theorem dX0_offForPureMajor_18 : decode cX0_offForPureMajor 18 = .ok (.isub, 1) := by decide +kernel
theorem dX0_offForPureMajor_19 : decode cX0_offForPureMajor 19 = .ok (.ireturn, 1) := by decide +kernel
theorem dX0_letPass_0 : decode cX0_letPass 0 = .ok (.iconst 0, 1) := by decide +kernel
theorem dX0_letPass_1 : decode cX0_letPass 1 = .ok (.istore_n 2, 1) := by decide +kernel
theorem dX0_letPass_2 : decode cX0_letPass 2 = .ok (.iload_n 2, 1) := by decide +kernel
theorem dX0_letPass_3 : decode cX0_letPass 3 = .ok (.iload_n 1, 1) := by decide +kernel
theorem dX0_letPass_4 : decode cX0_letPass 4 = .ok (.if_icmp .ge 62, 3) := by decide +kernel
theorem dX0_letPass_7 : decode cX0_letPass 7 = .ok (.iconst 0, 1) := by decide +kernel
theorem dX0_letPass_8 : decode cX0_letPass 8 = .ok (.istore_n 3, 1) := by decide +kernel
theorem dX0_letPass_9 : decode cX0_letPass 9 = .ok (.iload_n 3, 1) := by decide +kernel
theorem dX0_letPass_10 : decode cX0_letPass 10 = .ok (.bipush 12, 2) := by decide +kernel
theorem dX0_letPass_12 : decode cX0_letPass 12 = .ok (.if_icmp .ge 38, 3) := by decide +kernel
theorem dX0_letPass_15 : decode cX0_letPass 15 = .ok (.aload_n 0, 1) := by decide +kernel
theorem dX0_letPass_16 : decode cX0_letPass 16 = .ok (.getfield 15, 3) := by decide +kernel
theorem dX0_letPass_19 : decode cX0_letPass 19 = .ok (.iload_n 3, 1) := by decide +kernel
theorem dX0_letPass_20 : decode cX0_letPass 20 = .ok (.bipush (-50), 2) := by decide +kernel
theorem dX0_letPass_22 : decode cX0_letPass 22 = .ok (.bipush 50, 2) := by decide +kernel
theorem dX0_letPass_24 : decode cX0_letPass 24 = .ok (.aload_n 0, 1) := by decide +kernel
theorem dX0_letPass_25 : decode cX0_letPass 25 = .ok (.getfield 15, 3) := by decide +kernel
theorem dX0_letPass_28 : decode cX0_letPass 28 = .ok (.iload_n 3, 1) := by decide +kernel
theorem dX0_letPass_29 : decode cX0_letPass 29 = .ok (.iaload, 1) := by decide +kernel
theorem dX0_letPass_30 : decode cX0_letPass 30 = .ok (.aload_n 0, 1) := by decide +kernel
theorem dX0_letPass_31 : decode cX0_letPass 31 = .ok (.getfield 18, 3) := by decide +kernel
theorem dX0_letPass_34 : decode cX0_letPass 34 = .ok (.iload_n 3, 1) := by decide +kernel
theorem dX0_letPass_35 : decode cX0_letPass 35 = .ok (.iaload, 1) := by decide +kernel
theorem dX0_letPass_36 : decode cX0_letPass 36 = .ok (.iadd, 1) := by decide +kernel
theorem dX0_letPass_37 : decode cX0_letPass 37 = .ok (.invokestatic 47, 3) := by decide +kernel
theorem dX0_letPass_40 : decode cX0_letPass 40 = .ok (.invokestatic 50, 3) := by decide +kernel
theorem dX0_letPass_43 : decode cX0_letPass 43 = .ok (.iastore, 1) := by decide +kernel
theorem dX0_letPass_44 : decode cX0_letPass 44 = .ok (.iinc 3 1, 3) := by decide +kernel
theorem dX0_letPass_47 : decode cX0_letPass 47 = .ok (.goto (-38), 3) := by decide +kernel
theorem dX0_letPass_50 : decode cX0_letPass 50 = .ok (.aload_n 0, 1) := by decide +kernel
theorem dX0_letPass_51 : decode cX0_letPass 51 = .ok (.dup, 1) := by decide +kernel
theorem dX0_letPass_52 : decode cX0_letPass 52 = .ok (.getfield 28, 3) := by decide +kernel
theorem dX0_letPass_55 : decode cX0_letPass 55 = .ok (.iconst 1, 1) := by decide +kernel
theorem dX0_letPass_56 : decode cX0_letPass 56 = .ok (.iadd, 1) := by decide +kernel
theorem dX0_letPass_57 : decode cX0_letPass 57 = .ok (.putfield 28, 3) := by decide +kernel
theorem dX0_letPass_60 : decode cX0_letPass 60 = .ok (.iinc 2 1, 3) := by decide +kernel
theorem dX0_letPass_63 : decode cX0_letPass 63 = .ok (.goto (-61), 3) := by decide +kernel
theorem dX0_letPass_66 : decode cX0_letPass 66 = .ok (.return_, 1) := by decide +kernel
set_option maxRecDepth 20000 in
theorem ggX0_narrowness_J9_floorMod_7cf53 : GoodIn wsX0_narrowness wsJ9_floorMod_7cf53 := goodIn_r _ [6] (by decide +kernel) (by decide +kernel)
set_option maxRecDepth 20000 in
theorem gX0_narrowness_J9_floorMod_7cf53 : GoodIn wsX0_narrowness (va_wsS RX0 31 yJ9_floorMod_7cf53 wsJ9_floorMod_7cf53) := goodIn_app (goodIn_of _ (by decide +kernel)) ggX0_narrowness_J9_floorMod_7cf53
theorem dX0_narrowness_0 : decode cX0_narrowness 0 = .ok (.iload_n 1, 1) := by decide +kernel
theorem dX0_narrowness_1 : decode cX0_narrowness 1 = .ok (.bipush 12, 2) := by decide +kernel
theorem dX0_narrowness_3 : decode cX0_narrowness 3 = .ok (.invokestatic 31, 3) := by decide +kernel
theorem dX0_narrowness_6 : decode cX0_narrowness 6 = .ok (.istore_n 2, 1) := by decide +kernel
theorem dX0_narrowness_7 : decode cX0_narrowness 7 = .ok (.iload_n 1, 1) := by decide +kernel
theorem dX0_narrowness_8 : decode cX0_narrowness 8 = .ok (.iconst 1, 1) := by decide +kernel
theorem dX0_narrowness_9 : decode cX0_narrowness 9 = .ok (.iadd, 1) := by decide +kernel
theorem dX0_narrowness_10 : decode cX0_narrowness 10 = .ok (.bipush 12, 2) := by decide +kernel
theorem dX0_narrowness_12 : decode cX0_narrowness 12 = .ok (.invokestatic 31, 3) := by decide +kernel
theorem dX0_narrowness_15 : decode cX0_narrowness 15 = .ok (.istore_n 3, 1) := by decide +kernel
theorem dX0_narrowness_16 : decode cX0_narrowness 16 = .ok (.aload_n 0, 1) := by decide +kernel
theorem dX0_narrowness_17 : decode cX0_narrowness 17 = .ok (.getfield 9, 3) := by decide +kernel
theorem dX0_narrowness_20 : decode cX0_narrowness 20 = .ok (.iload_n 2, 1) := by decide +kernel
theorem dX0_narrowness_21 : decode cX0_narrowness 21 = .ok (.iaload, 1) := by decide +kernel
theorem dX0_narrowness_22 : decode cX0_narrowness 22 = .ok (.aload_n 0, 1) := by decide +kernel
theorem dX0_narrowness_23 : decode cX0_narrowness 23 = .ok (.getfield 15, 3) := by decide +kernel
theorem dX0_narrowness_26 : decode cX0_narrowness 26 = .ok (.iload_n 2, 1) := by decide +kernel
theorem dX0_narrowness_27 : decode cX0_narrowness 27 = .ok (.iaload, 1) := by decide +kernel
theorem dX0_narrowness_28 : decode cX0_narrowness 28 = .ok (.iadd, 1) := by decide +kernel
theorem dX0_narrowness_29 : decode cX0_narrowness 29 = .ok (.aload_n 0, 1) := by decide +kernel
theorem dX0_narrowness_30 : decode cX0_narrowness 30 = .ok (.getfield 15, 3) := by decide +kernel
theorem dX0_narrowness_33 : decode cX0_narrowness 33 = .ok (.iload_n 3, 1) := by decide +kernel
theorem dX0_narrowness_34 : decode cX0_narrowness 34 = .ok (.iaload, 1) := by decide +kernel
theorem dX0_narrowness_35 : decode cX0_narrowness 35 = .ok (.isub, 1) := by decide +kernel
theorem dX0_narrowness_36 : decode cX0_narrowness 36 = .ok (.ireturn, 1) := by decide +kernel
set_option maxRecDepth 20000 in
theorem ggX0_fifthWidth_X0_narrowness : GoodIn wsX0_fifthWidth wsX0_narrowness := goodIn_r _ [5, 6, 7, 8, 9, 10, 11, 12, 13, 14, 15, 16, 17] (by decide +kernel) (by decide +kernel)
set_option maxRecDepth 20000 in
theorem gX0_fifthWidth_X0_narrowness : GoodIn wsX0_fifthWidth (wsV RX0 53 RX0 yX0_narrowness wsX0_narrowness) := goodIn_app (goodIn_of _ (by decide +kernel)) ggX0_fifthWidth_X0_narrowness
theorem dX0_fifthWidth_0 : decode cX0_fifthWidth 0 = .ok (.sipush 702, 3) := by decide +kernel
theorem dX0_fifthWidth_3 : decode cX0_fifthWidth 3 = .ok (.aload_n 0, 1) := by decide +kernel
theorem dX0_fifthWidth_4 : decode cX0_fifthWidth 4 = .ok (.iload_n 1, 1) := by decide +kernel
theorem dX0_fifthWidth_5 : decode cX0_fifthWidth 5 = .ok (.invokevirtual 53, 3) := by decide +kernel
theorem dX0_fifthWidth_8 : decode cX0_fifthWidth 8 = .ok (.isub, 1) := by decide +kernel
theorem dX0_fifthWidth_9 : decode cX0_fifthWidth 9 = .ok (.ireturn, 1) := by decide +kernel
set_option maxRecDepth 20000 in
theorem ggX0_fifthBeats_X0_swings : GoodIn wsX0_fifthBeats wsX0_swings := goodIn_r _ [9, 10, 11, 12, 8, 13, 14, 15, 16, 17] (by decide +kernel) (by decide +kernel)
set_option maxRecDepth 20000 in
theorem gX0_fifthBeats_X0_swings : GoodIn wsX0_fifthBeats (wsV RX0 56 RX0 yX0_swings wsX0_swings) := goodIn_app (goodIn_of _ (by decide +kernel)) ggX0_fifthBeats_X0_swings
set_option maxRecDepth 20000 in
theorem ggX0_fifthBeats_X0_narrowness : GoodIn wsX0_fifthBeats wsX0_narrowness := goodIn_r _ [21, 22, 23, 14, 15, 16, 17, 24, 25, 26, 27, 28, 29] (by decide +kernel) (by decide +kernel)
set_option maxRecDepth 20000 in
theorem gX0_fifthBeats_X0_narrowness : GoodIn wsX0_fifthBeats (wsV RX0 53 RX0 yX0_narrowness wsX0_narrowness) := goodIn_app (goodIn_of _ (by decide +kernel)) ggX0_fifthBeats_X0_narrowness
theorem dX0_fifthBeats_0 : decode cX0_fifthBeats 0 = .ok (.aload_n 0, 1) := by decide +kernel
theorem dX0_fifthBeats_1 : decode cX0_fifthBeats 1 = .ok (.iload_n 1, 1) := by decide +kernel
theorem dX0_fifthBeats_2 : decode cX0_fifthBeats 2 = .ok (.invokevirtual 56, 3) := by decide +kernel
theorem dX0_fifthBeats_5 : decode cX0_fifthBeats 5 = .ok (.aload_n 0, 1) := by decide +kernel
theorem dX0_fifthBeats_6 : decode cX0_fifthBeats 6 = .ok (.iload_n 1, 1) := by decide +kernel
theorem dX0_fifthBeats_7 : decode cX0_fifthBeats 7 = .ok (.invokevirtual 53, 3) := by decide +kernel
theorem dX0_fifthBeats_10 : decode cX0_fifthBeats 10 = .ok (.invokestatic 59, 3) := by decide +kernel
theorem dX0_fifthBeats_13 : decode cX0_fifthBeats 13 = .ok (.imul, 1) := by decide +kernel
theorem dX0_fifthBeats_14 : decode cX0_fifthBeats 14 = .ok (.bipush 100, 2) := by decide +kernel
theorem dX0_fifthBeats_16 : decode cX0_fifthBeats 16 = .ok (.imul, 1) := by decide +kernel
theorem dX0_fifthBeats_17 : decode cX0_fifthBeats 17 = .ok (.sipush 577, 3) := by decide +kernel
theorem dX0_fifthBeats_20 : decode cX0_fifthBeats 20 = .ok (.idiv, 1) := by decide +kernel
theorem dX0_fifthBeats_21 : decode cX0_fifthBeats 21 = .ok (.ireturn, 1) := by decide +kernel
set_option maxRecDepth 20000 in
theorem ggX0_majorOff_X0_narrowness : GoodIn wsX0_majorOff wsX0_narrowness := goodIn_r _ [5, 6, 7, 8, 9, 10, 11, 12, 13, 14, 15, 16, 17] (by decide +kernel) (by decide +kernel)
set_option maxRecDepth 20000 in
theorem gX0_majorOff_X0_narrowness : GoodIn wsX0_majorOff (wsV RX0 53 RX0 yX0_narrowness wsX0_narrowness) := goodIn_app (goodIn_of _ (by decide +kernel)) ggX0_majorOff_X0_narrowness
theorem dX0_majorOff_0 : decode cX0_majorOff 0 = .ok (.bipush 22, 2) := by decide +kernel
theorem dX0_majorOff_2 : decode cX0_majorOff 2 = .ok (.istore_n 2, 1) := by decide +kernel
theorem dX0_majorOff_3 : decode cX0_majorOff 3 = .ok (.iconst 0, 1) := by decide +kernel
theorem dX0_majorOff_4 : decode cX0_majorOff 4 = .ok (.istore_n 3, 1) := by decide +kernel
theorem dX0_majorOff_5 : decode cX0_majorOff 5 = .ok (.iload_n 3, 1) := by decide +kernel
theorem dX0_majorOff_6 : decode cX0_majorOff 6 = .ok (.iconst 4, 1) := by decide +kernel
theorem dX0_majorOff_7 : decode cX0_majorOff 7 = .ok (.if_icmp .ge 19, 3) := by decide +kernel
theorem dX0_majorOff_10 : decode cX0_majorOff 10 = .ok (.iload_n 2, 1) := by decide +kernel
theorem dX0_majorOff_11 : decode cX0_majorOff 11 = .ok (.aload_n 0, 1) := by decide +kernel
theorem dX0_majorOff_12 : decode cX0_majorOff 12 = .ok (.iload_n 1, 1) := by decide +kernel
theorem dX0_majorOff_13 : decode cX0_majorOff 13 = .ok (.iload_n 3, 1) := by decide +kernel
theorem dX0_majorOff_14 : decode cX0_majorOff 14 = .ok (.iadd, 1) := by decide +kernel
theorem dX0_majorOff_15 : decode cX0_majorOff 15 = .ok (.invokevirtual 53, 3) := by decide +kernel
theorem dX0_majorOff_18 : decode cX0_majorOff 18 = .ok (.isub, 1) := by decide +kernel
theorem dX0_majorOff_19 : decode cX0_majorOff 19 = .ok (.istore_n 2, 1) := by decide +kernel
theorem dX0_majorOff_20 : decode cX0_majorOff 20 = .ok (.iinc 3 1, 3) := by decide +kernel
theorem dX0_majorOff_23 : decode cX0_majorOff 23 = .ok (.goto (-18), 3) := by decide +kernel
theorem dX0_majorOff_26 : decode cX0_majorOff 26 = .ok (.iload_n 2, 1) := by decide +kernel
theorem dX0_majorOff_27 : decode cX0_majorOff 27 = .ok (.ireturn, 1) := by decide +kernel
set_option maxRecDepth 20000 in
theorem ggX0_majorBeats_X0_swings : GoodIn wsX0_majorBeats wsX0_swings := goodIn_r _ [9, 10, 11, 12, 8, 13, 14, 15, 16, 17] (by decide +kernel) (by decide +kernel)
set_option maxRecDepth 20000 in
theorem gX0_majorBeats_X0_swings : GoodIn wsX0_majorBeats (wsV RX0 56 RX0 yX0_swings wsX0_swings) := goodIn_app (goodIn_of _ (by decide +kernel)) ggX0_majorBeats_X0_swings
set_option maxRecDepth 20000 in
theorem ggX0_majorBeats_X0_majorOff : GoodIn wsX0_majorBeats wsX0_majorOff := goodIn_r _ [21, 22, 23, 24, 8, 25, 26, 27, 14, 15, 16, 17, 28, 29, 30, 31, 32, 33] (by decide +kernel) (by decide +kernel)
set_option maxRecDepth 20000 in
theorem gX0_majorBeats_X0_majorOff : GoodIn wsX0_majorBeats (wsV RX0 44 RX0 yX0_majorOff wsX0_majorOff) := goodIn_app (goodIn_of _ (by decide +kernel)) ggX0_majorBeats_X0_majorOff
theorem dX0_majorBeats_0 : decode cX0_majorBeats 0 = .ok (.aload_n 0, 1) := by decide +kernel
theorem dX0_majorBeats_1 : decode cX0_majorBeats 1 = .ok (.iload_n 1, 1) := by decide +kernel
theorem dX0_majorBeats_2 : decode cX0_majorBeats 2 = .ok (.invokevirtual 56, 3) := by decide +kernel
theorem dX0_majorBeats_5 : decode cX0_majorBeats 5 = .ok (.aload_n 0, 1) := by decide +kernel
theorem dX0_majorBeats_6 : decode cX0_majorBeats 6 = .ok (.iload_n 1, 1) := by decide +kernel
theorem dX0_majorBeats_7 : decode cX0_majorBeats 7 = .ok (.invokevirtual 44, 3) := by decide +kernel
theorem dX0_majorBeats_10 : decode cX0_majorBeats 10 = .ok (.invokestatic 59, 3) := by decide +kernel
theorem dX0_majorBeats_13 : decode cX0_majorBeats 13 = .ok (.imul, 1) := by decide +kernel
theorem dX0_majorBeats_14 : decode cX0_majorBeats 14 = .ok (.bipush 100, 2) := by decide +kernel
theorem dX0_majorBeats_16 : decode cX0_majorBeats 16 = .ok (.imul, 1) := by decide +kernel
theorem dX0_majorBeats_17 : decode cX0_majorBeats 17 = .ok (.sipush 346, 3) := by decide +kernel
theorem dX0_majorBeats_20 : decode cX0_majorBeats 20 = .ok (.idiv, 1) := by decide +kernel
theorem dX0_majorBeats_21 : decode cX0_majorBeats 21 = .ok (.ireturn, 1) := by decide +kernel
set_option maxRecDepth 20000 in
theorem ggX0_minorWidth_X0_narrowness : GoodIn wsX0_minorWidth wsX0_narrowness := goodIn_r _ [5, 6, 7, 8, 9, 10, 11, 12, 13, 14, 15, 16, 17] (by decide +kernel) (by decide +kernel)
set_option maxRecDepth 20000 in
theorem gX0_minorWidth_X0_narrowness : GoodIn wsX0_minorWidth (wsV RX0 53 RX0 yX0_narrowness wsX0_narrowness) := goodIn_app (goodIn_of _ (by decide +kernel)) ggX0_minorWidth_X0_narrowness
theorem dX0_minorWidth_0 : decode cX0_minorWidth 0 = .ok (.sipush 294, 3) := by decide +kernel
theorem dX0_minorWidth_3 : decode cX0_minorWidth 3 = .ok (.istore_n 2, 1) := by decide +kernel
theorem dX0_minorWidth_4 : decode cX0_minorWidth 4 = .ok (.bipush 9, 2) := by decide +kernel
theorem dX0_minorWidth_6 : decode cX0_minorWidth 6 = .ok (.istore_n 3, 1) := by decide +kernel
theorem dX0_minorWidth_7 : decode cX0_minorWidth 7 = .ok (.iload_n 3, 1) := by decide +kernel
theorem dX0_minorWidth_8 : decode cX0_minorWidth 8 = .ok (.bipush 12, 2) := by decide +kernel
theorem dX0_minorWidth_10 : decode cX0_minorWidth 10 = .ok (.if_icmp .ge 19, 3) := by decide +kernel
theorem dX0_minorWidth_13 : decode cX0_minorWidth 13 = .ok (.iload_n 2, 1) := by decide +kernel
theorem dX0_minorWidth_14 : decode cX0_minorWidth 14 = .ok (.aload_n 0, 1) := by decide +kernel
theorem dX0_minorWidth_15 : decode cX0_minorWidth 15 = .ok (.iload_n 1, 1) := by decide +kernel
theorem dX0_minorWidth_16 : decode cX0_minorWidth 16 = .ok (.iload_n 3, 1) := by decide +kernel
theorem dX0_minorWidth_17 : decode cX0_minorWidth 17 = .ok (.iadd, 1) := by decide +kernel
theorem dX0_minorWidth_18 : decode cX0_minorWidth 18 = .ok (.invokevirtual 53, 3) := by decide +kernel
theorem dX0_minorWidth_21 : decode cX0_minorWidth 21 = .ok (.iadd, 1) := by decide +kernel
theorem dX0_minorWidth_22 : decode cX0_minorWidth 22 = .ok (.istore_n 2, 1) := by decide +kernel
theorem dX0_minorWidth_23 : decode cX0_minorWidth 23 = .ok (.iinc 3 1, 3) := by decide +kernel
theorem dX0_minorWidth_26 : decode cX0_minorWidth 26 = .ok (.goto (-19), 3) := by decide +kernel
theorem dX0_minorWidth_29 : decode cX0_minorWidth 29 = .ok (.iload_n 2, 1) := by decide +kernel
theorem dX0_minorWidth_30 : decode cX0_minorWidth 30 = .ok (.ireturn, 1) := by decide +kernel
set_option maxRecDepth 20000 in
theorem ggX0_keyboardNumber_J9_floorMod_7cf53 : GoodIn wsX0_keyboardNumber wsJ9_floorMod_7cf53 := goodIn_r _ [4] (by decide +kernel) (by decide +kernel)
set_option maxRecDepth 20000 in
theorem gX0_keyboardNumber_J9_floorMod_7cf53 : GoodIn wsX0_keyboardNumber (va_wsS RX0 31 yJ9_floorMod_7cf53 wsJ9_floorMod_7cf53) := goodIn_app (goodIn_of _ (by decide +kernel)) ggX0_keyboardNumber_J9_floorMod_7cf53
theorem dX0_keyboardNumber_0 : decode cX0_keyboardNumber 0 = .ok (.bipush 7, 2) := by decide +kernel
theorem dX0_keyboardNumber_2 : decode cX0_keyboardNumber 2 = .ok (.iload_n 1, 1) := by decide +kernel
theorem dX0_keyboardNumber_3 : decode cX0_keyboardNumber 3 = .ok (.imul, 1) := by decide +kernel
theorem dX0_keyboardNumber_4 : decode cX0_keyboardNumber 4 = .ok (.bipush 12, 2) := by decide +kernel
theorem dX0_keyboardNumber_6 : decode cX0_keyboardNumber 6 = .ok (.invokestatic 31, 3) := by decide +kernel
theorem dX0_keyboardNumber_9 : decode cX0_keyboardNumber 9 = .ok (.ireturn, 1) := by decide +kernel
set_option maxRecDepth 20000 in
theorem ggX0_swings_X0_keyboardNumber : GoodIn wsX0_swings wsX0_keyboardNumber := goodIn_r _ [5, 6, 7, 8, 9] (by decide +kernel) (by decide +kernel)
set_option maxRecDepth 20000 in
theorem gX0_swings_X0_keyboardNumber : GoodIn wsX0_swings (wsV RX0 65 RX0 yX0_keyboardNumber wsX0_keyboardNumber) := goodIn_app (goodIn_of _ (by decide +kernel)) ggX0_swings_X0_keyboardNumber
theorem dX0_swings_0 : decode cX0_swings 0 = .ok (.getstatic 62, 3) := by decide +kernel
theorem dX0_swings_3 : decode cX0_swings 3 = .ok (.aload_n 0, 1) := by decide +kernel
theorem dX0_swings_4 : decode cX0_swings 4 = .ok (.iload_n 1, 1) := by decide +kernel
theorem dX0_swings_5 : decode cX0_swings 5 = .ok (.invokevirtual 65, 3) := by decide +kernel
theorem dX0_swings_8 : decode cX0_swings 8 = .ok (.iaload, 1) := by decide +kernel
theorem dX0_swings_9 : decode cX0_swings 9 = .ok (.ireturn, 1) := by decide +kernel
set_option maxRecDepth 20000 in
theorem ggX0_height_X0_fifthWidth : GoodIn wsX0_height wsX0_fifthWidth := goodIn_r _ [5, 6, 7, 8, 4, 9, 10, 11, 12, 13, 14, 15, 16, 17, 18, 19, 20, 21] (by decide +kernel) (by decide +kernel)
set_option maxRecDepth 20000 in
theorem gX0_height_X0_fifthWidth : GoodIn wsX0_height (wsV RX0 68 RX0 yX0_fifthWidth wsX0_fifthWidth) := goodIn_app (goodIn_of _ (by decide +kernel)) ggX0_height_X0_fifthWidth
set_option maxRecDepth 20000 in
theorem ggX0_height_J9_floorMod_7cf53 : GoodIn wsX0_height wsJ9_floorMod_7cf53 := goodIn_r _ [15] (by decide +kernel) (by decide +kernel)
set_option maxRecDepth 20000 in
theorem gX0_height_J9_floorMod_7cf53 : GoodIn wsX0_height (va_wsS RX0 31 yJ9_floorMod_7cf53 wsJ9_floorMod_7cf53) := goodIn_app (goodIn_of _ (by decide +kernel)) ggX0_height_J9_floorMod_7cf53
theorem dX0_height_0 : decode cX0_height 0 = .ok (.iconst 0, 1) := by decide +kernel
theorem dX0_height_1 : decode cX0_height 1 = .ok (.istore_n 2, 1) := by decide +kernel
theorem dX0_height_2 : decode cX0_height 2 = .ok (.iconst 0, 1) := by decide +kernel
theorem dX0_height_3 : decode cX0_height 3 = .ok (.istore_n 3, 1) := by decide +kernel
theorem dX0_height_4 : decode cX0_height 4 = .ok (.iload_n 3, 1) := by decide +kernel
theorem dX0_height_5 : decode cX0_height 5 = .ok (.iload_n 1, 1) := by decide +kernel
theorem dX0_height_6 : decode cX0_height 6 = .ok (.if_icmp .ge 17, 3) := by decide +kernel
theorem dX0_height_9 : decode cX0_height 9 = .ok (.iload_n 2, 1) := by decide +kernel
theorem dX0_height_10 : decode cX0_height 10 = .ok (.aload_n 0, 1) := by decide +kernel
theorem dX0_height_11 : decode cX0_height 11 = .ok (.iload_n 3, 1) := by decide +kernel
theorem dX0_height_12 : decode cX0_height 12 = .ok (.invokevirtual 68, 3) := by decide +kernel
theorem dX0_height_15 : decode cX0_height 15 = .ok (.iadd, 1) := by decide +kernel
theorem dX0_height_16 : decode cX0_height 16 = .ok (.istore_n 2, 1) := by decide +kernel
theorem dX0_height_17 : decode cX0_height 17 = .ok (.iinc 3 1, 3) := by decide +kernel
theorem dX0_height_20 : decode cX0_height 20 = .ok (.goto (-16), 3) := by decide +kernel
theorem dX0_height_23 : decode cX0_height 23 = .ok (.iload_n 2, 1) := by decide +kernel
theorem dX0_height_24 : decode cX0_height 24 = .ok (.sipush 1200, 3) := by decide +kernel
theorem dX0_height_27 : decode cX0_height 27 = .ok (.invokestatic 31, 3) := by decide +kernel
theorem dX0_height_30 : decode cX0_height 30 = .ok (.ireturn, 1) := by decide +kernel
set_option maxRecDepth 20000 in
theorem ggX0_sourness_X0_majorOff : GoodIn wsX0_sourness wsX0_majorOff := goodIn_r _ [9, 10, 11, 12, 8, 13, 14, 15, 16, 17, 18, 19, 20, 21, 22, 23, 24, 25] (by decide +kernel) (by decide +kernel)
set_option maxRecDepth 20000 in
theorem gX0_sourness_X0_majorOff : GoodIn wsX0_sourness (wsV RX0 44 RX0 yX0_majorOff wsX0_majorOff) := goodIn_app (goodIn_of _ (by decide +kernel)) ggX0_sourness_X0_majorOff
set_option maxRecDepth 20000 in
theorem ggX0_sourness_X0_narrowness : GoodIn wsX0_sourness wsX0_narrowness := goodIn_r _ [13, 14, 15, 16, 17, 18, 19, 20, 21, 22, 23, 24, 25] (by decide +kernel) (by decide +kernel)
set_option maxRecDepth 20000 in
theorem gX0_sourness_X0_narrowness : GoodIn wsX0_sourness (wsV RX0 53 RX0 yX0_narrowness wsX0_narrowness) := goodIn_app (goodIn_of _ (by decide +kernel)) ggX0_sourness_X0_narrowness
theorem dX0_sourness_0 : decode cX0_sourness 0 = .ok (.aload_n 0, 1) := by decide +kernel
theorem dX0_sourness_1 : decode cX0_sourness 1 = .ok (.iload_n 1, 1) := by decide +kernel
theorem dX0_sourness_2 : decode cX0_sourness 2 = .ok (.invokevirtual 44, 3) := by decide +kernel
theorem dX0_sourness_5 : decode cX0_sourness 5 = .ok (.invokestatic 59, 3) := by decide +kernel
theorem dX0_sourness_8 : decode cX0_sourness 8 = .ok (.iconst 2, 1) := by decide +kernel
theorem dX0_sourness_9 : decode cX0_sourness 9 = .ok (.aload_n 0, 1) := by decide +kernel
theorem dX0_sourness_10 : decode cX0_sourness 10 = .ok (.iload_n 1, 1) := by decide +kernel
theorem dX0_sourness_11 : decode cX0_sourness 11 = .ok (.invokevirtual 53, 3) := by decide +kernel
theorem dX0_sourness_14 : decode cX0_sourness 14 = .ok (.invokestatic 59, 3) := by decide +kernel
theorem dX0_sourness_17 : decode cX0_sourness 17 = .ok (.imul, 1) := by decide +kernel
theorem dX0_sourness_18 : decode cX0_sourness 18 = .ok (.iadd, 1) := by decide +kernel
theorem dX0_sourness_19 : decode cX0_sourness 19 = .ok (.ireturn, 1) := by decide +kernel
set_option maxRecDepth 20000 in
theorem ggX0_place_X0_sourness : GoodIn wsX0_place wsX0_sourness := goodIn_r _ [5, 6, 7, 8, 9, 10, 11, 12, 4, 13, 14, 15, 16, 17, 18, 19, 20, 21, 22, 23, 24, 25, 26, 27, 28, 29] (by decide +kernel) (by decide +kernel)
set_option maxRecDepth 20000 in
theorem gX0_place_X0_sourness : GoodIn wsX0_place (wsV RX0 71 RX0 yX0_sourness wsX0_sourness) := goodIn_app (goodIn_of _ (by decide +kernel)) ggX0_place_X0_sourness
theorem dX0_place_0 : decode cX0_place 0 = .ok (.aload_n 0, 1) := by decide +kernel
theorem dX0_place_1 : decode cX0_place 1 = .ok (.iload_n 1, 1) := by decide +kernel
theorem dX0_place_2 : decode cX0_place 2 = .ok (.invokevirtual 71, 3) := by decide +kernel
theorem dX0_place_5 : decode cX0_place 5 = .ok (.istore_n 2, 1) := by decide +kernel
theorem dX0_place_6 : decode cX0_place 6 = .ok (.iconst 1, 1) := by decide +kernel
theorem dX0_place_7 : decode cX0_place 7 = .ok (.istore_n 3, 1) := by decide +kernel
theorem dX0_place_8 : decode cX0_place 8 = .ok (.iconst 0, 1) := by decide +kernel
theorem dX0_place_9 : decode cX0_place 9 = .ok (.istore 4, 2) := by decide +kernel
theorem dX0_place_11 : decode cX0_place 11 = .ok (.iload 4, 2) := by decide +kernel
theorem dX0_place_13 : decode cX0_place 13 = .ok (.bipush 12, 2) := by decide +kernel
theorem dX0_place_15 : decode cX0_place 15 = .ok (.if_icmp .ge 38, 3) := by decide +kernel
theorem dX0_place_18 : decode cX0_place 18 = .ok (.aload_n 0, 1) := by decide +kernel
theorem dX0_place_19 : decode cX0_place 19 = .ok (.iload 4, 2) := by decide +kernel
theorem dX0_place_21 : decode cX0_place 21 = .ok (.invokevirtual 71, 3) := by decide +kernel
theorem dX0_place_24 : decode cX0_place 24 = .ok (.istore 5, 2) := by decide +kernel
theorem dX0_place_26 : decode cX0_place 26 = .ok (.iload 5, 2) := by decide +kernel
theorem dX0_place_28 : decode cX0_place 28 = .ok (.iload_n 2, 1) := by decide +kernel
theorem dX0_place_29 : decode cX0_place 29 = .ok (.if_icmp .lt 15, 3) := by decide +kernel
theorem dX0_place_32 : decode cX0_place 32 = .ok (.iload 5, 2) := by decide +kernel
theorem dX0_place_34 : decode cX0_place 34 = .ok (.iload_n 2, 1) := by decide +kernel
theorem dX0_place_35 : decode cX0_place 35 = .ok (.if_icmp .ne 12, 3) := by decide +kernel
theorem dX0_place_38 : decode cX0_place 38 = .ok (.iload 4, 2) := by decide +kernel
theorem dX0_place_40 : decode cX0_place 40 = .ok (.iload_n 1, 1) := by decide +kernel
theorem dX0_place_41 : decode cX0_place 41 = .ok (.if_icmp .ge 6, 3) := by decide +kernel
theorem dX0_place_44 : decode cX0_place 44 = .ok (.iinc 3 1, 3) := by decide +kernel
theorem dX0_place_47 : decode cX0_place 47 = .ok (.iinc 4 1, 3) := by decide +kernel
theorem dX0_place_50 : decode cX0_place 50 = .ok (.goto (-39), 3) := by decide +kernel
theorem dX0_place_53 : decode cX0_place 53 = .ok (.iload_n 3, 1) := by decide +kernel
theorem dX0_place_54 : decode cX0_place 54 = .ok (.ireturn, 1) := by decide +kernel
set_option maxRecDepth 20000 in
theorem ggX0_cost_X0_sourness : GoodIn wsX0_cost wsX0_sourness := goodIn_r _ [6, 7, 8, 9, 10, 11, 12, 13, 5, 14, 15, 16, 17, 18, 19, 20, 21, 22, 23, 24, 25, 26, 27, 28, 29, 30] (by decide +kernel) (by decide +kernel)
set_option maxRecDepth 20000 in
theorem gX0_cost_X0_sourness : GoodIn wsX0_cost (wsV RX0 71 RX0 yX0_sourness wsX0_sourness) := goodIn_app (goodIn_of _ (by decide +kernel)) ggX0_cost_X0_sourness
theorem dX0_cost_0 : decode cX0_cost 0 = .ok (.iconst 0, 1) := by decide +kernel
theorem dX0_cost_1 : decode cX0_cost 1 = .ok (.istore_n 1, 1) := by decide +kernel
theorem dX0_cost_2 : decode cX0_cost 2 = .ok (.iconst 0, 1) := by decide +kernel
theorem dX0_cost_3 : decode cX0_cost 3 = .ok (.istore_n 2, 1) := by decide +kernel
theorem dX0_cost_4 : decode cX0_cost 4 = .ok (.iload_n 2, 1) := by decide +kernel
theorem dX0_cost_5 : decode cX0_cost 5 = .ok (.bipush 12, 2) := by decide +kernel
theorem dX0_cost_7 : decode cX0_cost 7 = .ok (.if_icmp .ge 24, 3) := by decide +kernel
theorem dX0_cost_10 : decode cX0_cost 10 = .ok (.iload_n 1, 1) := by decide +kernel
theorem dX0_cost_11 : decode cX0_cost 11 = .ok (.aload_n 0, 1) := by decide +kernel
theorem dX0_cost_12 : decode cX0_cost 12 = .ok (.iload_n 2, 1) := by decide +kernel
theorem dX0_cost_13 : decode cX0_cost 13 = .ok (.invokevirtual 71, 3) := by decide +kernel
theorem dX0_cost_16 : decode cX0_cost 16 = .ok (.aload_n 0, 1) := by decide +kernel
theorem dX0_cost_17 : decode cX0_cost 17 = .ok (.getfield 21, 3) := by decide +kernel
theorem dX0_cost_20 : decode cX0_cost 20 = .ok (.iload_n 2, 1) := by decide +kernel
theorem dX0_cost_21 : decode cX0_cost 21 = .ok (.iaload, 1) := by decide +kernel
theorem dX0_cost_22 : decode cX0_cost 22 = .ok (.imul, 1) := by decide +kernel
theorem dX0_cost_23 : decode cX0_cost 23 = .ok (.iadd, 1) := by decide +kernel
theorem dX0_cost_24 : decode cX0_cost 24 = .ok (.istore_n 1, 1) := by decide +kernel
theorem dX0_cost_25 : decode cX0_cost 25 = .ok (.iinc 2 1, 3) := by decide +kernel
theorem dX0_cost_28 : decode cX0_cost 28 = .ok (.goto (-24), 3) := by decide +kernel
theorem dX0_cost_31 : decode cX0_cost 31 = .ok (.iload_n 1, 1) := by decide +kernel
theorem dX0_cost_32 : decode cX0_cost 32 = .ok (.ireturn, 1) := by decide +kernel
set_option maxRecDepth 20000 in
theorem ggX0_mostMajorOff_X0_majorOff : GoodIn wsX0_mostMajorOff wsX0_majorOff := goodIn_r _ [12, 13, 14, 15, 11, 16, 17, 18, 19, 20, 21, 22, 23, 24, 25, 26, 27, 28] (by decide +kernel) (by decide +kernel)
set_option maxRecDepth 20000 in
theorem gX0_mostMajorOff_X0_majorOff : GoodIn wsX0_mostMajorOff (wsV RX0 44 RX0 yX0_majorOff wsX0_majorOff) := goodIn_app (goodIn_of _ (by decide +kernel)) ggX0_mostMajorOff_X0_majorOff
theorem dX0_mostMajorOff_0 : decode cX0_mostMajorOff 0 = .ok (.iconst 0, 1) := by decide +kernel
theorem dX0_mostMajorOff_1 : decode cX0_mostMajorOff 1 = .ok (.istore_n 1, 1) := by decide +kernel
theorem dX0_mostMajorOff_2 : decode cX0_mostMajorOff 2 = .ok (.iconst 0, 1) := by decide +kernel
theorem dX0_mostMajorOff_3 : decode cX0_mostMajorOff 3 = .ok (.istore_n 2, 1) := by decide +kernel
theorem dX0_mostMajorOff_4 : decode cX0_mostMajorOff 4 = .ok (.iload_n 2, 1) := by decide +kernel
theorem dX0_mostMajorOff_5 : decode cX0_mostMajorOff 5 = .ok (.bipush 12, 2) := by decide +kernel
theorem dX0_mostMajorOff_7 : decode cX0_mostMajorOff 7 = .ok (.if_icmp .ge 22, 3) := by decide +kernel
theorem dX0_mostMajorOff_10 : decode cX0_mostMajorOff 10 = .ok (.iload_n 1, 1) := by decide +kernel
theorem dX0_mostMajorOff_11 : decode cX0_mostMajorOff 11 = .ok (.aload_n 0, 1) := by decide +kernel
theorem dX0_mostMajorOff_12 : decode cX0_mostMajorOff 12 = .ok (.iload_n 2, 1) := by decide +kernel
theorem dX0_mostMajorOff_13 : decode cX0_mostMajorOff 13 = .ok (.invokevirtual 44, 3) := by decide +kernel
theorem dX0_mostMajorOff_16 : decode cX0_mostMajorOff 16 = .ok (.invokestatic 59, 3) := by decide +kernel
theorem dX0_mostMajorOff_19 : decode cX0_mostMajorOff 19 = .ok (.invokestatic 50, 3) := by decide +kernel
theorem dX0_mostMajorOff_22 : decode cX0_mostMajorOff 22 = .ok (.istore_n 1, 1) := by decide +kernel
theorem dX0_mostMajorOff_23 : decode cX0_mostMajorOff 23 = .ok (.iinc 2 1, 3) := by decide +kernel
theorem dX0_mostMajorOff_26 : decode cX0_mostMajorOff 26 = .ok (.goto (-22), 3) := by decide +kernel
theorem dX0_mostMajorOff_29 : decode cX0_mostMajorOff 29 = .ok (.iload_n 1, 1) := by decide +kernel
theorem dX0_mostMajorOff_30 : decode cX0_mostMajorOff 30 = .ok (.ireturn, 1) := by decide +kernel
set_option maxRecDepth 20000 in
theorem ggX0_pureFifths_X0_narrowness : GoodIn wsX0_pureFifths wsX0_narrowness := goodIn_r _ [5, 6, 7, 8, 9, 10, 11, 12, 13, 14, 15, 16, 17] (by decide +kernel) (by decide +kernel)
set_option maxRecDepth 20000 in
theorem gX0_pureFifths_X0_narrowness : GoodIn wsX0_pureFifths (wsV RX0 53 RX0 yX0_narrowness wsX0_narrowness) := goodIn_app (goodIn_of _ (by decide +kernel)) ggX0_pureFifths_X0_narrowness
theorem dX0_pureFifths_0 : decode cX0_pureFifths 0 = .ok (.iconst 0, 1) := by decide +kernel
theorem dX0_pureFifths_1 : decode cX0_pureFifths 1 = .ok (.istore_n 1, 1) := by decide +kernel
theorem dX0_pureFifths_2 : decode cX0_pureFifths 2 = .ok (.iconst 0, 1) := by decide +kernel
theorem dX0_pureFifths_3 : decode cX0_pureFifths 3 = .ok (.istore_n 2, 1) := by decide +kernel
theorem dX0_pureFifths_4 : decode cX0_pureFifths 4 = .ok (.iload_n 2, 1) := by decide +kernel
theorem dX0_pureFifths_5 : decode cX0_pureFifths 5 = .ok (.bipush 12, 2) := by decide +kernel
theorem dX0_pureFifths_7 : decode cX0_pureFifths 7 = .ok (.if_icmp .ge 20, 3) := by decide +kernel
theorem dX0_pureFifths_10 : decode cX0_pureFifths 10 = .ok (.aload_n 0, 1) := by decide +kernel
theorem dX0_pureFifths_11 : decode cX0_pureFifths 11 = .ok (.iload_n 2, 1) := by decide +kernel
theorem dX0_pureFifths_12 : decode cX0_pureFifths 12 = .ok (.invokevirtual 53, 3) := by decide +kernel
theorem dX0_pureFifths_15 : decode cX0_pureFifths 15 = .ok (.ifCond .ne 6, 3) := by decide +kernel
theorem dX0_pureFifths_18 : decode cX0_pureFifths 18 = .ok (.iinc 1 1, 3) := by decide +kernel
theorem dX0_pureFifths_21 : decode cX0_pureFifths 21 = .ok (.iinc 2 1, 3) := by decide +kernel
theorem dX0_pureFifths_24 : decode cX0_pureFifths 24 = .ok (.goto (-20), 3) := by decide +kernel
theorem dX0_pureFifths_27 : decode cX0_pureFifths 27 = .ok (.iload_n 1, 1) := by decide +kernel
theorem dX0_pureFifths_28 : decode cX0_pureFifths 28 = .ok (.ireturn, 1) := by decide +kernel
theorem dX0_mostOff_0 : decode cX0_mostOff 0 = .ok (.iconst 0, 1) := by decide +kernel
theorem dX0_mostOff_1 : decode cX0_mostOff 1 = .ok (.istore_n 1, 1) := by decide +kernel
theorem dX0_mostOff_2 : decode cX0_mostOff 2 = .ok (.iconst 0, 1) := by decide +kernel
theorem dX0_mostOff_3 : decode cX0_mostOff 3 = .ok (.istore_n 2, 1) := by decide +kernel
theorem dX0_mostOff_4 : decode cX0_mostOff 4 = .ok (.iload_n 2, 1) := by decide +kernel
theorem dX0_mostOff_5 : decode cX0_mostOff 5 = .ok (.bipush 12, 2) := by decide +kernel
theorem dX0_mostOff_7 : decode cX0_mostOff 7 = .ok (.if_icmp .ge 23, 3) := by decide +kernel
theorem dX0_mostOff_10 : decode cX0_mostOff 10 = .ok (.iload_n 1, 1) := by decide +kernel
theorem dX0_mostOff_11 : decode cX0_mostOff 11 = .ok (.aload_n 0, 1) := by decide +kernel
theorem dX0_mostOff_12 : decode cX0_mostOff 12 = .ok (.getfield 15, 3) := by decide +kernel
theorem dX0_mostOff_15 : decode cX0_mostOff 15 = .ok (.iload_n 2, 1) := by decide +kernel
theorem dX0_mostOff_16 : decode cX0_mostOff 16 = .ok (.iaload, 1) := by decide +kernel
theorem dX0_mostOff_17 : decode cX0_mostOff 17 = .ok (.invokestatic 59, 3) := by decide +kernel
theorem dX0_mostOff_20 : decode cX0_mostOff 20 = .ok (.invokestatic 50, 3) := by decide +kernel
theorem dX0_mostOff_23 : decode cX0_mostOff 23 = .ok (.istore_n 1, 1) := by decide +kernel
theorem dX0_mostOff_24 : decode cX0_mostOff 24 = .ok (.iinc 2 1, 3) := by decide +kernel
theorem dX0_mostOff_27 : decode cX0_mostOff 27 = .ok (.goto (-23), 3) := by decide +kernel
theorem dX0_mostOff_30 : decode cX0_mostOff 30 = .ok (.iload_n 1, 1) := by decide +kernel
theorem dX0_mostOff_31 : decode cX0_mostOff 31 = .ok (.ireturn, 1) := by decide +kernel
theorem dX0_allOff_0 : decode cX0_allOff 0 = .ok (.iconst 0, 1) := by decide +kernel
theorem dX0_allOff_1 : decode cX0_allOff 1 = .ok (.istore_n 1, 1) := by decide +kernel
theorem dX0_allOff_2 : decode cX0_allOff 2 = .ok (.iconst 0, 1) := by decide +kernel
theorem dX0_allOff_3 : decode cX0_allOff 3 = .ok (.istore_n 2, 1) := by decide +kernel
theorem dX0_allOff_4 : decode cX0_allOff 4 = .ok (.iload_n 2, 1) := by decide +kernel
theorem dX0_allOff_5 : decode cX0_allOff 5 = .ok (.bipush 12, 2) := by decide +kernel
theorem dX0_allOff_7 : decode cX0_allOff 7 = .ok (.if_icmp .ge 21, 3) := by decide +kernel
theorem dX0_allOff_10 : decode cX0_allOff 10 = .ok (.iload_n 1, 1) := by decide +kernel
theorem dX0_allOff_11 : decode cX0_allOff 11 = .ok (.aload_n 0, 1) := by decide +kernel
theorem dX0_allOff_12 : decode cX0_allOff 12 = .ok (.getfield 15, 3) := by decide +kernel
theorem dX0_allOff_15 : decode cX0_allOff 15 = .ok (.iload_n 2, 1) := by decide +kernel
theorem dX0_allOff_16 : decode cX0_allOff 16 = .ok (.iaload, 1) := by decide +kernel
theorem dX0_allOff_17 : decode cX0_allOff 17 = .ok (.invokestatic 59, 3) := by decide +kernel
theorem dX0_allOff_20 : decode cX0_allOff 20 = .ok (.iadd, 1) := by decide +kernel
theorem dX0_allOff_21 : decode cX0_allOff 21 = .ok (.istore_n 1, 1) := by decide +kernel
theorem dX0_allOff_22 : decode cX0_allOff 22 = .ok (.iinc 2 1, 3) := by decide +kernel
theorem dX0_allOff_25 : decode cX0_allOff 25 = .ok (.goto (-21), 3) := by decide +kernel
theorem dX0_allOff_28 : decode cX0_allOff 28 = .ok (.iload_n 1, 1) := by decide +kernel
theorem dX0_allOff_29 : decode cX0_allOff 29 = .ok (.ireturn, 1) := by decide +kernel
set_option maxRecDepth 20000 in
theorem ggX0_fastestBeats_X0_fifthBeats : GoodIn wsX0_fastestBeats wsX0_fifthBeats := goodIn_r _ [10, 11, 12, 4, 13, 14, 15, 16, 9, 17, 18, 19, 20, 21, 22, 23, 24, 25, 26, 27, 28, 29, 30, 31, 32, 33, 34, 35, 36, 37] (by decide +kernel) (by decide +kernel)
set_option maxRecDepth 20000 in
theorem gX0_fastestBeats_X0_fifthBeats : GoodIn wsX0_fastestBeats (wsV RX0 74 RX0 yX0_fifthBeats wsX0_fifthBeats) := goodIn_app (goodIn_of _ (by decide +kernel)) ggX0_fastestBeats_X0_fifthBeats
theorem dX0_fastestBeats_0 : decode cX0_fastestBeats 0 = .ok (.iconst 0, 1) := by decide +kernel
theorem dX0_fastestBeats_1 : decode cX0_fastestBeats 1 = .ok (.istore_n 1, 1) := by decide +kernel
theorem dX0_fastestBeats_2 : decode cX0_fastestBeats 2 = .ok (.iconst 0, 1) := by decide +kernel
theorem dX0_fastestBeats_3 : decode cX0_fastestBeats 3 = .ok (.istore_n 2, 1) := by decide +kernel
theorem dX0_fastestBeats_4 : decode cX0_fastestBeats 4 = .ok (.iload_n 2, 1) := by decide +kernel
theorem dX0_fastestBeats_5 : decode cX0_fastestBeats 5 = .ok (.bipush 12, 2) := by decide +kernel
theorem dX0_fastestBeats_7 : decode cX0_fastestBeats 7 = .ok (.if_icmp .ge 27, 3) := by decide +kernel
theorem dX0_fastestBeats_10 : decode cX0_fastestBeats 10 = .ok (.iload_n 2, 1) := by decide +kernel
theorem dX0_fastestBeats_11 : decode cX0_fastestBeats 11 = .ok (.aload_n 0, 1) := by decide +kernel
theorem dX0_fastestBeats_12 : decode cX0_fastestBeats 12 = .ok (.getfield 24, 3) := by decide +kernel
theorem dX0_fastestBeats_15 : decode cX0_fastestBeats 15 = .ok (.if_icmp .eq 13, 3) := by decide +kernel
theorem dX0_fastestBeats_18 : decode cX0_fastestBeats 18 = .ok (.iload_n 1, 1) := by decide +kernel
theorem dX0_fastestBeats_19 : decode cX0_fastestBeats 19 = .ok (.aload_n 0, 1) := by decide +kernel
theorem dX0_fastestBeats_20 : decode cX0_fastestBeats 20 = .ok (.iload_n 2, 1) := by decide +kernel
theorem dX0_fastestBeats_21 : decode cX0_fastestBeats 21 = .ok (.invokevirtual 74, 3) := by decide +kernel
theorem dX0_fastestBeats_24 : decode cX0_fastestBeats 24 = .ok (.invokestatic 50, 3) := by decide +kernel
theorem dX0_fastestBeats_27 : decode cX0_fastestBeats 27 = .ok (.istore_n 1, 1) := by decide +kernel
theorem dX0_fastestBeats_28 : decode cX0_fastestBeats 28 = .ok (.iinc 2 1, 3) := by decide +kernel
theorem dX0_fastestBeats_31 : decode cX0_fastestBeats 31 = .ok (.goto (-27), 3) := by decide +kernel
theorem dX0_fastestBeats_34 : decode cX0_fastestBeats 34 = .ok (.iload_n 1, 1) := by decide +kernel
theorem dX0_fastestBeats_35 : decode cX0_fastestBeats 35 = .ok (.ireturn, 1) := by decide +kernel
set_option maxRecDepth 20000 in
theorem ggX0_tellFifth_J9_floorMod_7cf53 : GoodIn wsX0_tellFifth wsJ9_floorMod_7cf53 := goodIn_r _ [6] (by decide +kernel) (by decide +kernel)
set_option maxRecDepth 20000 in
theorem gX0_tellFifth_J9_floorMod_7cf53 : GoodIn wsX0_tellFifth (va_wsS RX0 31 yJ9_floorMod_7cf53 wsJ9_floorMod_7cf53) := goodIn_app (goodIn_of _ (by decide +kernel)) ggX0_tellFifth_J9_floorMod_7cf53
set_option maxRecDepth 20000 in
theorem ggX0_tellFifth_X0_narrowness : GoodIn wsX0_tellFifth wsX0_narrowness := goodIn_r _ [11, 1, 12, 3, 4, 5, 6, 33, 34, 35, 36, 37, 38] (by decide +kernel) (by decide +kernel)
set_option maxRecDepth 20000 in
theorem gX0_tellFifth_X0_narrowness : GoodIn wsX0_tellFifth (wsV RX0 53 RX0 yX0_narrowness wsX0_narrowness) := goodIn_app (goodIn_of _ (by decide +kernel)) ggX0_tellFifth_X0_narrowness
set_option maxRecDepth 20000 in
theorem ggX0_tellFifth_X0_fifthWidth : GoodIn wsX0_tellFifth wsX0_fifthWidth := goodIn_r _ [16, 7, 8, 9, 10, 11, 1, 12, 3, 4, 5, 6, 33, 34, 35, 36, 37, 38] (by decide +kernel) (by decide +kernel)
set_option maxRecDepth 20000 in
theorem gX0_tellFifth_X0_fifthWidth : GoodIn wsX0_tellFifth (wsV RX0 68 RX0 yX0_fifthWidth wsX0_fifthWidth) := goodIn_app (goodIn_of _ (by decide +kernel)) ggX0_tellFifth_X0_fifthWidth
set_option maxRecDepth 20000 in
theorem ggX0_tellFifth_X0_fifthBeats : GoodIn wsX0_tellFifth wsX0_fifthBeats := goodIn_r _ [20, 21, 22, 23, 24, 25, 26, 27, 10, 28, 29, 30, 31, 32, 3, 4, 5, 6, 7, 8, 9, 11, 1, 12, 33, 34, 35, 36, 37, 38] (by decide +kernel) (by decide +kernel)
set_option maxRecDepth 20000 in
theorem gX0_tellFifth_X0_fifthBeats : GoodIn wsX0_tellFifth (wsV RX0 74 RX0 yX0_fifthBeats wsX0_fifthBeats) := goodIn_app (goodIn_of _ (by decide +kernel)) ggX0_tellFifth_X0_fifthBeats
theorem dX0_tellFifth_0 : decode cX0_tellFifth 0 = .ok (.iload_n 1, 1) := by decide +kernel
theorem dX0_tellFifth_1 : decode cX0_tellFifth 1 = .ok (.bipush 12, 2) := by decide +kernel
theorem dX0_tellFifth_3 : decode cX0_tellFifth 3 = .ok (.invokestatic 31, 3) := by decide +kernel
theorem dX0_tellFifth_6 : decode cX0_tellFifth 6 = .ok (.istore_n 3, 1) := by decide +kernel
theorem dX0_tellFifth_7 : decode cX0_tellFifth 7 = .ok (.iload_n 2, 1) := by decide +kernel
theorem dX0_tellFifth_8 : decode cX0_tellFifth 8 = .ok (.tableswitch 57 0 3 #[32, 39, 45, 51], 32) := by decide +kernel
theorem dX0_tellFifth_40 : decode cX0_tellFifth 40 = .ok (.aload_n 0, 1) := by decide +kernel
theorem dX0_tellFifth_41 : decode cX0_tellFifth 41 = .ok (.getfield 9, 3) := by decide +kernel
theorem dX0_tellFifth_44 : decode cX0_tellFifth 44 = .ok (.iload_n 3, 1) := by decide +kernel
theorem dX0_tellFifth_45 : decode cX0_tellFifth 45 = .ok (.iaload, 1) := by decide +kernel
theorem dX0_tellFifth_46 : decode cX0_tellFifth 46 = .ok (.ireturn, 1) := by decide +kernel
theorem dX0_tellFifth_47 : decode cX0_tellFifth 47 = .ok (.aload_n 0, 1) := by decide +kernel
theorem dX0_tellFifth_48 : decode cX0_tellFifth 48 = .ok (.iload_n 3, 1) := by decide +kernel
theorem dX0_tellFifth_49 : decode cX0_tellFifth 49 = .ok (.invokevirtual 53, 3) := by decide +kernel
theorem dX0_tellFifth_52 : decode cX0_tellFifth 52 = .ok (.ireturn, 1) := by decide +kernel
theorem dX0_tellFifth_53 : decode cX0_tellFifth 53 = .ok (.aload_n 0, 1) := by decide +kernel
theorem dX0_tellFifth_54 : decode cX0_tellFifth 54 = .ok (.iload_n 3, 1) := by decide +kernel
theorem dX0_tellFifth_55 : decode cX0_tellFifth 55 = .ok (.invokevirtual 68, 3) := by decide +kernel
theorem dX0_tellFifth_58 : decode cX0_tellFifth 58 = .ok (.ireturn, 1) := by decide +kernel
theorem dX0_tellFifth_59 : decode cX0_tellFifth 59 = .ok (.aload_n 0, 1) := by decide +kernel
theorem dX0_tellFifth_60 : decode cX0_tellFifth 60 = .ok (.iload_n 3, 1) := by decide +kernel
theorem dX0_tellFifth_61 : decode cX0_tellFifth 61 = .ok (.invokevirtual 74, 3) := by decide +kernel
theorem dX0_tellFifth_64 : decode cX0_tellFifth 64 = .ok (.ireturn, 1) := by decide +kernel
theorem dX0_tellFifth_65 : decode cX0_tellFifth 65 = .ok (.iload_n 3, 1) := by decide +kernel
theorem dX0_tellFifth_66 : decode cX0_tellFifth 66 = .ok (.aload_n 0, 1) := by decide +kernel
theorem dX0_tellFifth_67 : decode cX0_tellFifth 67 = .ok (.getfield 24, 3) := by decide +kernel
theorem dX0_tellFifth_70 : decode cX0_tellFifth 70 = .ok (.if_icmp .ne 7, 3) := by decide +kernel
theorem dX0_tellFifth_73 : decode cX0_tellFifth 73 = .ok (.iconst 1, 1) := by decide +kernel
theorem dX0_tellFifth_74 : decode cX0_tellFifth 74 = .ok (.goto 4, 3) := by decide +kernel
theorem dX0_tellFifth_77 : decode cX0_tellFifth 77 = .ok (.iconst 0, 1) := by decide +kernel
theorem dX0_tellFifth_78 : decode cX0_tellFifth 78 = .ok (.ireturn, 1) := by decide +kernel
set_option maxRecDepth 20000 in
theorem ggX0_tellMajor_X0_majorOff : GoodIn wsX0_tellMajor wsX0_majorOff := goodIn_r _ [5, 6, 7, 8, 4, 9, 10, 11, 12, 13, 14, 15, 32, 33, 34, 35, 36, 37] (by decide +kernel) (by decide +kernel)
set_option maxRecDepth 20000 in
theorem gX0_tellMajor_X0_majorOff : GoodIn wsX0_tellMajor (wsV RX0 44 RX0 yX0_majorOff wsX0_majorOff) := goodIn_app (goodIn_of _ (by decide +kernel)) ggX0_tellMajor_X0_majorOff
set_option maxRecDepth 20000 in
theorem ggX0_tellMajor_X0_majorBeats : GoodIn wsX0_tellMajor wsX0_majorBeats := goodIn_r _ [19, 20, 21, 22, 23, 24, 25, 26, 4, 27, 28, 29, 30, 31, 12, 13, 14, 15, 1, 2, 3, 5, 6, 7, 8, 9, 10, 11, 32, 33, 34, 35, 36, 37] (by decide +kernel) (by decide +kernel)
set_option maxRecDepth 20000 in
theorem gX0_tellMajor_X0_majorBeats : GoodIn wsX0_tellMajor (wsV RX0 77 RX0 yX0_majorBeats wsX0_majorBeats) := goodIn_app (goodIn_of _ (by decide +kernel)) ggX0_tellMajor_X0_majorBeats
theorem dX0_tellMajor_0 : decode cX0_tellMajor 0 = .ok (.iload_n 2, 1) := by decide +kernel
theorem dX0_tellMajor_1 : decode cX0_tellMajor 1 = .ok (.lookupswitch 43 #[(0, 27), (1, 37)], 27) := by decide +kernel
theorem dX0_tellMajor_28 : decode cX0_tellMajor 28 = .ok (.sipush 386, 3) := by decide +kernel
theorem dX0_tellMajor_31 : decode cX0_tellMajor 31 = .ok (.aload_n 0, 1) := by decide +kernel
theorem dX0_tellMajor_32 : decode cX0_tellMajor 32 = .ok (.iload_n 1, 1) := by decide +kernel
theorem dX0_tellMajor_33 : decode cX0_tellMajor 33 = .ok (.invokevirtual 44, 3) := by decide +kernel
theorem dX0_tellMajor_36 : decode cX0_tellMajor 36 = .ok (.iadd, 1) := by decide +kernel
theorem dX0_tellMajor_37 : decode cX0_tellMajor 37 = .ok (.ireturn, 1) := by decide +kernel
theorem dX0_tellMajor_38 : decode cX0_tellMajor 38 = .ok (.aload_n 0, 1) := by decide +kernel
theorem dX0_tellMajor_39 : decode cX0_tellMajor 39 = .ok (.iload_n 1, 1) := by decide +kernel
theorem dX0_tellMajor_40 : decode cX0_tellMajor 40 = .ok (.invokevirtual 44, 3) := by decide +kernel
theorem dX0_tellMajor_43 : decode cX0_tellMajor 43 = .ok (.ireturn, 1) := by decide +kernel
theorem dX0_tellMajor_44 : decode cX0_tellMajor 44 = .ok (.aload_n 0, 1) := by decide +kernel
theorem dX0_tellMajor_45 : decode cX0_tellMajor 45 = .ok (.iload_n 1, 1) := by decide +kernel
theorem dX0_tellMajor_46 : decode cX0_tellMajor 46 = .ok (.invokevirtual 77, 3) := by decide +kernel
theorem dX0_tellMajor_49 : decode cX0_tellMajor 49 = .ok (.ireturn, 1) := by decide +kernel
set_option maxRecDepth 20000 in
theorem ggX0_tellMinor_X0_minorWidth : GoodIn wsX0_tellMinor wsX0_minorWidth := goodIn_r _ [5, 6, 7, 8, 4, 9, 10, 11, 12, 13, 14, 15, 16, 17, 18, 19, 20, 21] (by decide +kernel) (by decide +kernel)
set_option maxRecDepth 20000 in
theorem gX0_tellMinor_X0_minorWidth : GoodIn wsX0_tellMinor (wsV RX0 80 RX0 yX0_minorWidth wsX0_minorWidth) := goodIn_app (goodIn_of _ (by decide +kernel)) ggX0_tellMinor_X0_minorWidth
theorem dX0_tellMinor_0 : decode cX0_tellMinor 0 = .ok (.aload_n 0, 1) := by decide +kernel
theorem dX0_tellMinor_1 : decode cX0_tellMinor 1 = .ok (.iload_n 1, 1) := by decide +kernel
theorem dX0_tellMinor_2 : decode cX0_tellMinor 2 = .ok (.invokevirtual 80, 3) := by decide +kernel
theorem dX0_tellMinor_5 : decode cX0_tellMinor 5 = .ok (.istore_n 3, 1) := by decide +kernel
theorem dX0_tellMinor_6 : decode cX0_tellMinor 6 = .ok (.iload_n 2, 1) := by decide +kernel
theorem dX0_tellMinor_7 : decode cX0_tellMinor 7 = .ok (.ifCond .ne 7, 3) := by decide +kernel
theorem dX0_tellMinor_10 : decode cX0_tellMinor 10 = .ok (.iload_n 3, 1) := by decide +kernel
theorem dX0_tellMinor_11 : decode cX0_tellMinor 11 = .ok (.goto 8, 3) := by decide +kernel
theorem dX0_tellMinor_14 : decode cX0_tellMinor 14 = .ok (.iload_n 3, 1) := by decide +kernel
theorem dX0_tellMinor_15 : decode cX0_tellMinor 15 = .ok (.sipush 316, 3) := by decide +kernel
theorem dX0_tellMinor_18 : decode cX0_tellMinor 18 = .ok (.isub, 1) := by decide +kernel
theorem dX0_tellMinor_19 : decode cX0_tellMinor 19 = .ok (.ireturn, 1) := by decide +kernel
set_option maxRecDepth 20000 in
theorem ggX0_tellNote_J9_floorMod_7cf53 : GoodIn wsX0_tellNote wsJ9_floorMod_7cf53 := goodIn_r _ [6] (by decide +kernel) (by decide +kernel)
set_option maxRecDepth 20000 in
theorem gX0_tellNote_J9_floorMod_7cf53 : GoodIn wsX0_tellNote (va_wsS RX0 31 yJ9_floorMod_7cf53 wsJ9_floorMod_7cf53) := goodIn_app (goodIn_of _ (by decide +kernel)) ggX0_tellNote_J9_floorMod_7cf53
set_option maxRecDepth 20000 in
theorem ggX0_tellNote_X0_keyboardNumber : GoodIn wsX0_tellNote wsX0_keyboardNumber := goodIn_r _ [11, 3, 4, 5, 6] (by decide +kernel) (by decide +kernel)
set_option maxRecDepth 20000 in
theorem gX0_tellNote_X0_keyboardNumber : GoodIn wsX0_tellNote (wsV RX0 65 RX0 yX0_keyboardNumber wsX0_keyboardNumber) := goodIn_app (goodIn_of _ (by decide +kernel)) ggX0_tellNote_X0_keyboardNumber
set_option maxRecDepth 20000 in
theorem ggX0_tellNote_X0_swings : GoodIn wsX0_tellNote wsX0_swings := goodIn_r _ [15, 7, 8, 9, 10, 11, 3, 4, 5, 6] (by decide +kernel) (by decide +kernel)
set_option maxRecDepth 20000 in
theorem gX0_tellNote_X0_swings : GoodIn wsX0_tellNote (wsV RX0 56 RX0 yX0_swings wsX0_swings) := goodIn_app (goodIn_of _ (by decide +kernel)) ggX0_tellNote_X0_swings
set_option maxRecDepth 20000 in
theorem ggX0_tellNote_X0_height : GoodIn wsX0_tellNote wsX0_height := goodIn_r _ [19, 20, 21, 22, 10, 23, 24, 25, 26, 27, 28, 1, 3, 4, 5, 6, 29, 30, 31, 32, 33, 34] (by decide +kernel) (by decide +kernel)
set_option maxRecDepth 20000 in
theorem gX0_tellNote_X0_height : GoodIn wsX0_tellNote (wsV RX0 83 RX0 yX0_height wsX0_height) := goodIn_app (goodIn_of _ (by decide +kernel)) ggX0_tellNote_X0_height
theorem dX0_tellNote_0 : decode cX0_tellNote 0 = .ok (.iload_n 1, 1) := by decide +kernel
theorem dX0_tellNote_1 : decode cX0_tellNote 1 = .ok (.bipush 12, 2) := by decide +kernel
theorem dX0_tellNote_3 : decode cX0_tellNote 3 = .ok (.invokestatic 31, 3) := by decide +kernel
theorem dX0_tellNote_6 : decode cX0_tellNote 6 = .ok (.istore_n 3, 1) := by decide +kernel
theorem dX0_tellNote_7 : decode cX0_tellNote 7 = .ok (.iload_n 2, 1) := by decide +kernel
theorem dX0_tellNote_8 : decode cX0_tellNote 8 = .ok (.tableswitch 58 0 3 #[32, 39, 46, 52], 32) := by decide +kernel
theorem dX0_tellNote_40 : decode cX0_tellNote 40 = .ok (.aload_n 0, 1) := by decide +kernel
theorem dX0_tellNote_41 : decode cX0_tellNote 41 = .ok (.getfield 15, 3) := by decide +kernel
theorem dX0_tellNote_44 : decode cX0_tellNote 44 = .ok (.iload_n 3, 1) := by decide +kernel
theorem dX0_tellNote_45 : decode cX0_tellNote 45 = .ok (.iaload, 1) := by decide +kernel
theorem dX0_tellNote_46 : decode cX0_tellNote 46 = .ok (.ireturn, 1) := by decide +kernel
theorem dX0_tellNote_47 : decode cX0_tellNote 47 = .ok (.aload_n 0, 1) := by decide +kernel
theorem dX0_tellNote_48 : decode cX0_tellNote 48 = .ok (.getfield 18, 3) := by decide +kernel
theorem dX0_tellNote_51 : decode cX0_tellNote 51 = .ok (.iload_n 3, 1) := by decide +kernel
theorem dX0_tellNote_52 : decode cX0_tellNote 52 = .ok (.iaload, 1) := by decide +kernel
theorem dX0_tellNote_53 : decode cX0_tellNote 53 = .ok (.ireturn, 1) := by decide +kernel
theorem dX0_tellNote_54 : decode cX0_tellNote 54 = .ok (.aload_n 0, 1) := by decide +kernel
theorem dX0_tellNote_55 : decode cX0_tellNote 55 = .ok (.iload_n 3, 1) := by decide +kernel
theorem dX0_tellNote_56 : decode cX0_tellNote 56 = .ok (.invokevirtual 65, 3) := by decide +kernel
theorem dX0_tellNote_59 : decode cX0_tellNote 59 = .ok (.ireturn, 1) := by decide +kernel
theorem dX0_tellNote_60 : decode cX0_tellNote 60 = .ok (.aload_n 0, 1) := by decide +kernel
theorem dX0_tellNote_61 : decode cX0_tellNote 61 = .ok (.iload_n 3, 1) := by decide +kernel
theorem dX0_tellNote_62 : decode cX0_tellNote 62 = .ok (.invokevirtual 56, 3) := by decide +kernel
theorem dX0_tellNote_65 : decode cX0_tellNote 65 = .ok (.ireturn, 1) := by decide +kernel
theorem dX0_tellNote_66 : decode cX0_tellNote 66 = .ok (.aload_n 0, 1) := by decide +kernel
theorem dX0_tellNote_67 : decode cX0_tellNote 67 = .ok (.iload_n 3, 1) := by decide +kernel
theorem dX0_tellNote_68 : decode cX0_tellNote 68 = .ok (.invokevirtual 83, 3) := by decide +kernel
theorem dX0_tellNote_71 : decode cX0_tellNote 71 = .ok (.ireturn, 1) := by decide +kernel
set_option maxRecDepth 20000 in
theorem ggX0_tellKey_J9_floorMod_7cf53 : GoodIn wsX0_tellKey wsJ9_floorMod_7cf53 := goodIn_r _ [5] (by decide +kernel) (by decide +kernel)
set_option maxRecDepth 20000 in
theorem gX0_tellKey_J9_floorMod_7cf53 : GoodIn wsX0_tellKey (va_wsS RX0 31 yJ9_floorMod_7cf53 wsJ9_floorMod_7cf53) := goodIn_app (goodIn_of _ (by decide +kernel)) ggX0_tellKey_J9_floorMod_7cf53
set_option maxRecDepth 20000 in
theorem ggX0_tellKey_X0_sourness : GoodIn wsX0_tellKey wsX0_sourness := goodIn_r _ [10, 11, 12, 13, 14, 15, 16, 17, 9, 18, 19, 20, 21, 22, 23, 24, 2, 3, 4, 5, 29, 30, 31, 32, 33, 34] (by decide +kernel) (by decide +kernel)
set_option maxRecDepth 20000 in
theorem gX0_tellKey_X0_sourness : GoodIn wsX0_tellKey (wsV RX0 71 RX0 yX0_sourness wsX0_sourness) := goodIn_app (goodIn_of _ (by decide +kernel)) ggX0_tellKey_X0_sourness
set_option maxRecDepth 20000 in
theorem ggX0_tellKey_X0_place : GoodIn wsX0_tellKey wsX0_place := goodIn_r _ [28, 6, 7, 8, 9, 10, 11, 12, 13, 14, 15, 16, 17, 18, 19, 20, 21, 22, 23, 24, 2, 3, 4, 5, 29, 30, 31, 32, 33, 34] (by decide +kernel) (by decide +kernel)
set_option maxRecDepth 20000 in
theorem gX0_tellKey_X0_place : GoodIn wsX0_tellKey (wsV RX0 86 RX0 yX0_place wsX0_place) := goodIn_app (goodIn_of _ (by decide +kernel)) ggX0_tellKey_X0_place
theorem dX0_tellKey_0 : decode cX0_tellKey 0 = .ok (.iload_n 1, 1) := by decide +kernel
theorem dX0_tellKey_1 : decode cX0_tellKey 1 = .ok (.bipush 12, 2) := by decide +kernel
theorem dX0_tellKey_3 : decode cX0_tellKey 3 = .ok (.invokestatic 31, 3) := by decide +kernel
theorem dX0_tellKey_6 : decode cX0_tellKey 6 = .ok (.istore_n 3, 1) := by decide +kernel
theorem dX0_tellKey_7 : decode cX0_tellKey 7 = .ok (.iload_n 2, 1) := by decide +kernel
theorem dX0_tellKey_8 : decode cX0_tellKey 8 = .ok (.tableswitch 54 0 2 #[28, 35, 41], 28) := by decide +kernel
theorem dX0_tellKey_36 : decode cX0_tellKey 36 = .ok (.aload_n 0, 1) := by decide +kernel
theorem dX0_tellKey_37 : decode cX0_tellKey 37 = .ok (.getfield 21, 3) := by decide +kernel
theorem dX0_tellKey_40 : decode cX0_tellKey 40 = .ok (.iload_n 3, 1) := by decide +kernel
theorem dX0_tellKey_41 : decode cX0_tellKey 41 = .ok (.iaload, 1) := by decide +kernel
theorem dX0_tellKey_42 : decode cX0_tellKey 42 = .ok (.ireturn, 1) := by decide +kernel
theorem dX0_tellKey_43 : decode cX0_tellKey 43 = .ok (.aload_n 0, 1) := by decide +kernel
theorem dX0_tellKey_44 : decode cX0_tellKey 44 = .ok (.iload_n 3, 1) := by decide +kernel
theorem dX0_tellKey_45 : decode cX0_tellKey 45 = .ok (.invokevirtual 71, 3) := by decide +kernel
theorem dX0_tellKey_48 : decode cX0_tellKey 48 = .ok (.ireturn, 1) := by decide +kernel
theorem dX0_tellKey_49 : decode cX0_tellKey 49 = .ok (.aload_n 0, 1) := by decide +kernel
theorem dX0_tellKey_50 : decode cX0_tellKey 50 = .ok (.iload_n 3, 1) := by decide +kernel
theorem dX0_tellKey_51 : decode cX0_tellKey 51 = .ok (.invokevirtual 71, 3) := by decide +kernel
theorem dX0_tellKey_54 : decode cX0_tellKey 54 = .ok (.aload_n 0, 1) := by decide +kernel
theorem dX0_tellKey_55 : decode cX0_tellKey 55 = .ok (.getfield 21, 3) := by decide +kernel
theorem dX0_tellKey_58 : decode cX0_tellKey 58 = .ok (.iload_n 3, 1) := by decide +kernel
theorem dX0_tellKey_59 : decode cX0_tellKey 59 = .ok (.iaload, 1) := by decide +kernel
theorem dX0_tellKey_60 : decode cX0_tellKey 60 = .ok (.imul, 1) := by decide +kernel
theorem dX0_tellKey_61 : decode cX0_tellKey 61 = .ok (.ireturn, 1) := by decide +kernel
theorem dX0_tellKey_62 : decode cX0_tellKey 62 = .ok (.aload_n 0, 1) := by decide +kernel
theorem dX0_tellKey_63 : decode cX0_tellKey 63 = .ok (.iload_n 3, 1) := by decide +kernel
theorem dX0_tellKey_64 : decode cX0_tellKey 64 = .ok (.invokevirtual 86, 3) := by decide +kernel
theorem dX0_tellKey_67 : decode cX0_tellKey 67 = .ok (.ireturn, 1) := by decide +kernel
set_option maxRecDepth 20000 in
theorem ggX0_tellCount_X0_cost : GoodIn wsX0_tellCount wsX0_cost := goodIn_r _ [7, 8, 9, 10, 11, 6, 12, 13, 14, 15, 16, 17, 18, 19, 20, 21, 22, 23, 24, 25, 26, 27, 28, 29, 30, 62, 63, 64, 65, 66, 67] (by decide +kernel) (by decide +kernel)
set_option maxRecDepth 20000 in
theorem gX0_tellCount_X0_cost : GoodIn wsX0_tellCount (wsV RX0 89 RX0 yX0_cost wsX0_cost) := goodIn_app (goodIn_of _ (by decide +kernel)) ggX0_tellCount_X0_cost
set_option maxRecDepth 20000 in
theorem ggX0_tellCount_X0_mostMajorOff : GoodIn wsX0_tellCount wsX0_mostMajorOff := goodIn_r _ [34, 13, 14, 15, 16, 35, 36, 37, 17, 18, 19, 6, 20, 21, 22, 23, 24, 25, 26, 27, 28, 29, 30, 62, 63, 64, 65, 66, 67] (by decide +kernel) (by decide +kernel)
set_option maxRecDepth 20000 in
theorem gX0_tellCount_X0_mostMajorOff : GoodIn wsX0_tellCount (wsV RX0 93 RX0 yX0_mostMajorOff wsX0_mostMajorOff) := goodIn_app (goodIn_of _ (by decide +kernel)) ggX0_tellCount_X0_mostMajorOff
set_option maxRecDepth 20000 in
theorem ggX0_tellCount_X0_pureFifths : GoodIn wsX0_tellCount wsX0_pureFifths := goodIn_r _ [41, 21, 22, 23, 6, 24, 25, 26, 27, 28, 29, 30, 62, 63, 64, 65, 66, 67] (by decide +kernel) (by decide +kernel)
set_option maxRecDepth 20000 in
theorem gX0_tellCount_X0_pureFifths : GoodIn wsX0_tellCount (wsV RX0 96 RX0 yX0_pureFifths wsX0_pureFifths) := goodIn_app (goodIn_of _ (by decide +kernel)) ggX0_tellCount_X0_pureFifths
set_option maxRecDepth 20000 in
theorem ggX0_tellCount_X0_allOff : GoodIn wsX0_tellCount wsX0_allOff := goodIn_r _ [45, 26, 13, 14, 15, 16, 62, 63, 64, 65, 66, 67] (by decide +kernel) (by decide +kernel)
set_option maxRecDepth 20000 in
theorem gX0_tellCount_X0_allOff : GoodIn wsX0_tellCount (wsV RX0 99 RX0 yX0_allOff wsX0_allOff) := goodIn_app (goodIn_of _ (by decide +kernel)) ggX0_tellCount_X0_allOff
set_option maxRecDepth 20000 in
theorem ggX0_tellCount_X0_fastestBeats : GoodIn wsX0_tellCount wsX0_fastestBeats := goodIn_r _ [49, 2, 35, 36, 15, 37, 50, 51, 52, 6, 53, 13, 14, 16, 54, 55, 56, 57, 58, 59, 60, 61, 27, 28, 29, 30, 21, 22, 23, 24, 25, 26, 62, 63, 64, 65, 66, 67] (by decide +kernel) (by decide +kernel)
set_option maxRecDepth 20000 in
theorem gX0_tellCount_X0_fastestBeats : GoodIn wsX0_tellCount (wsV RX0 102 RX0 yX0_fastestBeats wsX0_fastestBeats) := goodIn_app (goodIn_of _ (by decide +kernel)) ggX0_tellCount_X0_fastestBeats
theorem dX0_tellCount_0 : decode cX0_tellCount 0 = .ok (.iload_n 1, 1) := by decide +kernel
theorem dX0_tellCount_1 : decode cX0_tellCount 1 = .ok (.tableswitch 69 0 5 #[39, 44, 49, 54, 59, 64], 39) := by decide +kernel
theorem dX0_tellCount_40 : decode cX0_tellCount 40 = .ok (.aload_n 0, 1) := by decide +kernel
theorem dX0_tellCount_41 : decode cX0_tellCount 41 = .ok (.getfield 28, 3) := by decide +kernel
theorem dX0_tellCount_44 : decode cX0_tellCount 44 = .ok (.ireturn, 1) := by decide +kernel
theorem dX0_tellCount_45 : decode cX0_tellCount 45 = .ok (.aload_n 0, 1) := by decide +kernel
theorem dX0_tellCount_46 : decode cX0_tellCount 46 = .ok (.getfield 24, 3) := by decide +kernel
theorem dX0_tellCount_49 : decode cX0_tellCount 49 = .ok (.ireturn, 1) := by decide +kernel
theorem dX0_tellCount_50 : decode cX0_tellCount 50 = .ok (.aload_n 0, 1) := by decide +kernel
theorem dX0_tellCount_51 : decode cX0_tellCount 51 = .ok (.invokevirtual 89, 3) := by decide +kernel
theorem dX0_tellCount_54 : decode cX0_tellCount 54 = .ok (.ireturn, 1) := by decide +kernel
theorem dX0_tellCount_55 : decode cX0_tellCount 55 = .ok (.aload_n 0, 1) := by decide +kernel
theorem dX0_tellCount_56 : decode cX0_tellCount 56 = .ok (.invokevirtual 93, 3) := by decide +kernel
theorem dX0_tellCount_59 : decode cX0_tellCount 59 = .ok (.ireturn, 1) := by decide +kernel
theorem dX0_tellCount_60 : decode cX0_tellCount 60 = .ok (.aload_n 0, 1) := by decide +kernel
theorem dX0_tellCount_61 : decode cX0_tellCount 61 = .ok (.invokevirtual 96, 3) := by decide +kernel
theorem dX0_tellCount_64 : decode cX0_tellCount 64 = .ok (.ireturn, 1) := by decide +kernel
theorem dX0_tellCount_65 : decode cX0_tellCount 65 = .ok (.aload_n 0, 1) := by decide +kernel
theorem dX0_tellCount_66 : decode cX0_tellCount 66 = .ok (.invokevirtual 99, 3) := by decide +kernel
theorem dX0_tellCount_69 : decode cX0_tellCount 69 = .ok (.ireturn, 1) := by decide +kernel
theorem dX0_tellCount_70 : decode cX0_tellCount 70 = .ok (.aload_n 0, 1) := by decide +kernel
theorem dX0_tellCount_71 : decode cX0_tellCount 71 = .ok (.invokevirtual 102, 3) := by decide +kernel
theorem dX0_tellCount_74 : decode cX0_tellCount 74 = .ok (.ireturn, 1) := by decide +kernel
end
section
set_option maxRecDepth 20000 in
theorem ggX1_init_X0_init : GoodIn wsX1_init wsX0_init := goodIn_r _ [11, 12, 2, 3, 13, 14, 15, 16, 17, 18, 19, 20, 21, 22, 23, 24, 25] (by decide +kernel) (by decide +kernel)
set_option maxRecDepth 20000 in
theorem gX1_init_X0_init : GoodIn wsX1_init (wsX0_init) := ggX1_init_X0_init
theorem dX1_init_0 : decode cX1_init 0 = .ok (.aload_n 0, 1) := by decide +kernel
theorem dX1_init_1 : decode cX1_init 1 = .ok (.invokespecial 1, 3) := by decide +kernel
theorem dX1_init_4 : decode cX1_init 4 = .ok (.aload_n 0, 1) := by decide +kernel
theorem dX1_init_5 : decode cX1_init 5 = .ok (.new 7, 3) := by decide +kernel
theorem dX1_init_8 : decode cX1_init 8 = .ok (.dup, 1) := by decide +kernel
theorem dX1_init_9 : decode cX1_init 9 = .ok (.invokespecial 9, 3) := by decide +kernel
theorem dX1_init_12 : decode cX1_init 12 = .ok (.putfield 10, 3) := by decide +kernel
theorem dX1_init_15 : decode cX1_init 15 = .ok (.aload_n 0, 1) := by decide +kernel
theorem dX1_init_16 : decode cX1_init 16 = .ok (.new 7, 3) := by decide +kernel
theorem dX1_init_19 : decode cX1_init 19 = .ok (.dup, 1) := by decide +kernel
theorem dX1_init_20 : decode cX1_init 20 = .ok (.invokespecial 9, 3) := by decide +kernel
theorem dX1_init_23 : decode cX1_init 23 = .ok (.putfield 16, 3) := by decide +kernel
theorem dX1_init_26 : decode cX1_init 26 = .ok (.return_, 1) := by decide +kernel
set_option maxRecDepth 20000 in
theorem ggX1_setFifth_X1_checkRing : GoodIn wsX1_setFifth wsX1_checkRing := goodIn_ca (goodIn_r _ [6, 7, 8] (by decide +kernel) (by decide +kernel)) (goodIn_sub (fun _ h => List.mem_cons_of_mem _ (List.mem_append_left _ (List.mem_append_left _ (List.mem_append_right _ h)))) (by decide +kernel))
set_option maxRecDepth 20000 in
theorem gX1_setFifth_X1_checkRing : GoodIn wsX1_setFifth (va_wsS RX1 19 yX1_checkRing wsX1_checkRing) := goodIn_app (goodIn_of _ (by decide +kernel)) ggX1_setFifth_X1_checkRing
set_option maxRecDepth 20000 in
theorem ggX1_setFifth_X1_checkArgument : GoodIn wsX1_setFifth wsX1_checkArgument := goodIn_ca (goodIn_r _ [11, 12, 13] (by decide +kernel) (by decide +kernel)) (goodIn_sub (fun _ h => List.mem_cons_of_mem _ (List.mem_append_left _ (List.mem_append_right _ h))) (by decide +kernel))
set_option maxRecDepth 20000 in
theorem gX1_setFifth_X1_checkArgument : GoodIn wsX1_setFifth (va_wsS RX1 23 yX1_checkArgument wsX1_checkArgument) := goodIn_app (goodIn_of _ (by decide +kernel)) ggX1_setFifth_X1_checkArgument
set_option maxRecDepth 20000 in
theorem ggX1_setFifth_X1_checkNotWolf : GoodIn wsX1_setFifth wsX1_checkNotWolf := goodIn_ca (goodIn_r _ [17, 18, 19, 1, 20, 36, 37, 38, 39, 40, 41, 42, 43] (by decide +kernel) (by decide +kernel)) (goodIn_sub (fun _ h => List.mem_cons_of_mem _ (List.mem_append_right _ h)) (by decide +kernel))
set_option maxRecDepth 20000 in
theorem gX1_setFifth_X1_checkNotWolf : GoodIn wsX1_setFifth (wsV RX1 27 RX1 yX1_checkNotWolf wsX1_checkNotWolf) := goodIn_app (goodIn_of _ (by decide +kernel)) ggX1_setFifth_X1_checkNotWolf
set_option maxRecDepth 20000 in
theorem ggX1_setFifth_X0_plan : GoodIn wsX1_setFifth wsX0_plan := goodIn_r _ [25, 26, 27, 28, 29, 30, 31, 32, 33, 24, 34, 35, 38, 39, 40, 41, 42, 43] (by decide +kernel) (by decide +kernel)
set_option maxRecDepth 20000 in
theorem gX1_setFifth_X0_plan : GoodIn wsX1_setFifth (wsV RX1 34 RX0 yX0_plan wsX0_plan) := goodIn_app (goodIn_of _ (by decide +kernel)) ggX1_setFifth_X0_plan
theorem dX1_setFifth_0 : decode cX1_setFifth 0 = .ok (.iload_n 1, 1) := by decide +kernel
theorem dX1_setFifth_1 : decode cX1_setFifth 1 = .ok (.invokestatic 19, 3) := by decide +kernel
theorem dX1_setFifth_4 : decode cX1_setFifth 4 = .ok (.iload_n 2, 1) := by decide +kernel
theorem dX1_setFifth_5 : decode cX1_setFifth 5 = .ok (.bipush (-10), 2) := by decide +kernel
theorem dX1_setFifth_7 : decode cX1_setFifth 7 = .ok (.bipush 20, 2) := by decide +kernel
theorem dX1_setFifth_9 : decode cX1_setFifth 9 = .ok (.invokestatic 23, 3) := by decide +kernel
theorem dX1_setFifth_12 : decode cX1_setFifth 12 = .ok (.aload_n 0, 1) := by decide +kernel
theorem dX1_setFifth_13 : decode cX1_setFifth 13 = .ok (.iload_n 1, 1) := by decide +kernel
theorem dX1_setFifth_14 : decode cX1_setFifth 14 = .ok (.invokevirtual 27, 3) := by decide +kernel
theorem dX1_setFifth_17 : decode cX1_setFifth 17 = .ok (.aload_n 0, 1) := by decide +kernel
theorem dX1_setFifth_18 : decode cX1_setFifth 18 = .ok (.getfield 10, 3) := by decide +kernel
theorem dX1_setFifth_21 : decode cX1_setFifth 21 = .ok (.getfield 30, 3) := by decide +kernel
theorem dX1_setFifth_24 : decode cX1_setFifth 24 = .ok (.iload_n 1, 1) := by decide +kernel
theorem dX1_setFifth_25 : decode cX1_setFifth 25 = .ok (.iaload, 1) := by decide +kernel
theorem dX1_setFifth_26 : decode cX1_setFifth 26 = .ok (.istore_n 3, 1) := by decide +kernel
theorem dX1_setFifth_27 : decode cX1_setFifth 27 = .ok (.aload_n 0, 1) := by decide +kernel
theorem dX1_setFifth_28 : decode cX1_setFifth 28 = .ok (.getfield 10, 3) := by decide +kernel
theorem dX1_setFifth_31 : decode cX1_setFifth 31 = .ok (.iload_n 1, 1) := by decide +kernel
theorem dX1_setFifth_32 : decode cX1_setFifth 32 = .ok (.iload_n 2, 1) := by decide +kernel
theorem dX1_setFifth_33 : decode cX1_setFifth 33 = .ok (.invokevirtual 34, 3) := by decide +kernel
theorem dX1_setFifth_36 : decode cX1_setFifth 36 = .ok (.iload_n 3, 1) := by decide +kernel
theorem dX1_setFifth_37 : decode cX1_setFifth 37 = .ok (.ireturn, 1) := by decide +kernel
set_option maxRecDepth 20000 in
theorem ggX1_shift_X1_checkRing : GoodIn wsX1_shift wsX1_checkRing := goodIn_ca (goodIn_r _ [6, 7, 8] (by decide +kernel) (by decide +kernel)) (goodIn_sub (fun _ h => List.mem_cons_of_mem _ (List.mem_append_right _ h)) (by decide +kernel))
set_option maxRecDepth 20000 in
theorem gX1_shift_X1_checkRing : GoodIn wsX1_shift (va_wsS RX1 19 yX1_checkRing wsX1_checkRing) := goodIn_app (goodIn_of _ (by decide +kernel)) ggX1_shift_X1_checkRing
set_option maxRecDepth 20000 in
theorem ggX1_shift_X0_moveWolf : GoodIn wsX1_shift wsX0_moveWolf := goodIn_r _ [13, 14, 15, 16, 17, 18, 19, 22, 23, 24, 25, 26, 27] (by decide +kernel) (by decide +kernel)
set_option maxRecDepth 20000 in
theorem gX1_shift_X0_moveWolf : GoodIn wsX1_shift (wsV RX1 42 RX0 yX0_moveWolf wsX0_moveWolf) := goodIn_app (goodIn_of _ (by decide +kernel)) ggX1_shift_X0_moveWolf
theorem dX1_shift_0 : decode cX1_shift 0 = .ok (.iload_n 1, 1) := by decide +kernel
theorem dX1_shift_1 : decode cX1_shift 1 = .ok (.invokestatic 19, 3) := by decide +kernel
theorem dX1_shift_4 : decode cX1_shift 4 = .ok (.aload_n 0, 1) := by decide +kernel
theorem dX1_shift_5 : decode cX1_shift 5 = .ok (.getfield 10, 3) := by decide +kernel
theorem dX1_shift_8 : decode cX1_shift 8 = .ok (.getfield 38, 3) := by decide +kernel
theorem dX1_shift_11 : decode cX1_shift 11 = .ok (.istore_n 2, 1) := by decide +kernel
theorem dX1_shift_12 : decode cX1_shift 12 = .ok (.aload_n 0, 1) := by decide +kernel
theorem dX1_shift_13 : decode cX1_shift 13 = .ok (.getfield 10, 3) := by decide +kernel
theorem dX1_shift_16 : decode cX1_shift 16 = .ok (.iload_n 1, 1) := by decide +kernel
theorem dX1_shift_17 : decode cX1_shift 17 = .ok (.invokevirtual 42, 3) := by decide +kernel
theorem dX1_shift_20 : decode cX1_shift 20 = .ok (.iload_n 2, 1) := by decide +kernel
theorem dX1_shift_21 : decode cX1_shift 21 = .ok (.ireturn, 1) := by decide +kernel
set_option maxRecDepth 20000 in
theorem ggX1_spread_X1_checkArgument : GoodIn wsX1_spread wsX1_checkArgument := goodIn_ca (goodIn_r _ [5, 6, 7] (by decide +kernel) (by decide +kernel)) (goodIn_sub (fun _ h => List.mem_cons_of_mem _ (List.mem_append_right _ h)) (by decide +kernel))
set_option maxRecDepth 20000 in
theorem gX1_spread_X1_checkArgument : GoodIn wsX1_spread (va_wsS RX1 23 yX1_checkArgument wsX1_checkArgument) := goodIn_app (goodIn_of _ (by decide +kernel)) ggX1_spread_X1_checkArgument
set_option maxRecDepth 20000 in
theorem ggX1_spread_X0_wolfNarrow : GoodIn wsX1_spread wsX0_wolfNarrow := goodIn_r _ [12, 13, 14, 15, 16, 17, 18, 29, 30, 31, 32, 33, 34] (by decide +kernel) (by decide +kernel)
set_option maxRecDepth 20000 in
theorem gX1_spread_X0_wolfNarrow : GoodIn wsX1_spread (wsV RX1 45 RX0 yX0_wolfNarrow wsX0_wolfNarrow) := goodIn_app (goodIn_of _ (by decide +kernel)) ggX1_spread_X0_wolfNarrow
set_option maxRecDepth 20000 in
theorem ggX1_spread_X0_spreadComma : GoodIn wsX1_spread wsX0_spreadComma := goodIn_r _ [22, 13, 14, 15, 16, 17, 18, 23, 24, 25, 11, 26, 29, 30, 31, 32, 33, 34] (by decide +kernel) (by decide +kernel)
set_option maxRecDepth 20000 in
theorem gX1_spread_X0_spreadComma : GoodIn wsX1_spread (wsV RX1 49 RX0 yX0_spreadComma wsX0_spreadComma) := goodIn_app (goodIn_of _ (by decide +kernel)) ggX1_spread_X0_spreadComma
theorem dX1_spread_0 : decode cX1_spread 0 = .ok (.iload_n 1, 1) := by decide +kernel
theorem dX1_spread_1 : decode cX1_spread 1 = .ok (.iconst 2, 1) := by decide +kernel
theorem dX1_spread_2 : decode cX1_spread 2 = .ok (.bipush 11, 2) := by decide +kernel
theorem dX1_spread_4 : decode cX1_spread 4 = .ok (.invokestatic 23, 3) := by decide +kernel
theorem dX1_spread_7 : decode cX1_spread 7 = .ok (.aload_n 0, 1) := by decide +kernel
theorem dX1_spread_8 : decode cX1_spread 8 = .ok (.getfield 10, 3) := by decide +kernel
theorem dX1_spread_11 : decode cX1_spread 11 = .ok (.invokevirtual 45, 3) := by decide +kernel
theorem dX1_spread_14 : decode cX1_spread 14 = .ok (.istore_n 2, 1) := by decide +kernel
theorem dX1_spread_15 : decode cX1_spread 15 = .ok (.aload_n 0, 1) := by decide +kernel
theorem dX1_spread_16 : decode cX1_spread 16 = .ok (.getfield 10, 3) := by decide +kernel
theorem dX1_spread_19 : decode cX1_spread 19 = .ok (.iload_n 1, 1) := by decide +kernel
theorem dX1_spread_20 : decode cX1_spread 20 = .ok (.invokevirtual 49, 3) := by decide +kernel
theorem dX1_spread_23 : decode cX1_spread 23 = .ok (.iload_n 2, 1) := by decide +kernel
theorem dX1_spread_24 : decode cX1_spread 24 = .ok (.ireturn, 1) := by decide +kernel
set_option maxRecDepth 20000 in
theorem ggX1_setOften_X1_checkRing : GoodIn wsX1_setOften wsX1_checkRing := goodIn_ca (goodIn_r _ [6, 7, 8] (by decide +kernel) (by decide +kernel)) (goodIn_sub (fun _ h => List.mem_cons_of_mem _ (List.mem_append_left _ (List.mem_append_right _ h))) (by decide +kernel))
set_option maxRecDepth 20000 in
theorem gX1_setOften_X1_checkRing : GoodIn wsX1_setOften (va_wsS RX1 19 yX1_checkRing wsX1_checkRing) := goodIn_app (goodIn_of _ (by decide +kernel)) ggX1_setOften_X1_checkRing
set_option maxRecDepth 20000 in
theorem ggX1_setOften_X1_checkArgument : GoodIn wsX1_setOften wsX1_checkArgument := goodIn_ca (goodIn_r _ [11, 12, 13] (by decide +kernel) (by decide +kernel)) (goodIn_sub (fun _ h => List.mem_cons_of_mem _ (List.mem_append_right _ h)) (by decide +kernel))
set_option maxRecDepth 20000 in
theorem gX1_setOften_X1_checkArgument : GoodIn wsX1_setOften (va_wsS RX1 23 yX1_checkArgument wsX1_checkArgument) := goodIn_app (goodIn_of _ (by decide +kernel)) ggX1_setOften_X1_checkArgument
theorem dX1_setOften_0 : decode cX1_setOften 0 = .ok (.iload_n 1, 1) := by decide +kernel
theorem dX1_setOften_1 : decode cX1_setOften 1 = .ok (.invokestatic 19, 3) := by decide +kernel
theorem dX1_setOften_4 : decode cX1_setOften 4 = .ok (.iload_n 2, 1) := by decide +kernel
theorem dX1_setOften_5 : decode cX1_setOften 5 = .ok (.iconst 0, 1) := by decide +kernel
theorem dX1_setOften_6 : decode cX1_setOften 6 = .ok (.bipush 9, 2) := by decide +kernel
theorem dX1_setOften_8 : decode cX1_setOften 8 = .ok (.invokestatic 23, 3) := by decide +kernel
theorem dX1_setOften_11 : decode cX1_setOften 11 = .ok (.aload_n 0, 1) := by decide +kernel
theorem dX1_setOften_12 : decode cX1_setOften 12 = .ok (.getfield 10, 3) := by decide +kernel
theorem dX1_setOften_15 : decode cX1_setOften 15 = .ok (.getfield 52, 3) := by decide +kernel
theorem dX1_setOften_18 : decode cX1_setOften 18 = .ok (.iload_n 1, 1) := by decide +kernel
theorem dX1_setOften_19 : decode cX1_setOften 19 = .ok (.iaload, 1) := by decide +kernel
theorem dX1_setOften_20 : decode cX1_setOften 20 = .ok (.istore_n 3, 1) := by decide +kernel
theorem dX1_setOften_21 : decode cX1_setOften 21 = .ok (.aload_n 0, 1) := by decide +kernel
theorem dX1_setOften_22 : decode cX1_setOften 22 = .ok (.getfield 10, 3) := by decide +kernel
theorem dX1_setOften_25 : decode cX1_setOften 25 = .ok (.getfield 52, 3) := by decide +kernel
theorem dX1_setOften_28 : decode cX1_setOften 28 = .ok (.iload_n 1, 1) := by decide +kernel
theorem dX1_setOften_29 : decode cX1_setOften 29 = .ok (.iload_n 2, 1) := by decide +kernel
theorem dX1_setOften_30 : decode cX1_setOften 30 = .ok (.iastore, 1) := by decide +kernel
theorem dX1_setOften_31 : decode cX1_setOften 31 = .ok (.iload_n 3, 1) := by decide +kernel
theorem dX1_setOften_32 : decode cX1_setOften 32 = .ok (.ireturn, 1) := by decide +kernel
set_option maxRecDepth 20000 in
theorem ggX1_setDrift_X1_checkRing : GoodIn wsX1_setDrift wsX1_checkRing := goodIn_ca (goodIn_r _ [6, 7, 8] (by decide +kernel) (by decide +kernel)) (goodIn_sub (fun _ h => List.mem_cons_of_mem _ (List.mem_append_left _ (List.mem_append_right _ h))) (by decide +kernel))
set_option maxRecDepth 20000 in
theorem gX1_setDrift_X1_checkRing : GoodIn wsX1_setDrift (va_wsS RX1 19 yX1_checkRing wsX1_checkRing) := goodIn_app (goodIn_of _ (by decide +kernel)) ggX1_setDrift_X1_checkRing
set_option maxRecDepth 20000 in
theorem ggX1_setDrift_X1_checkArgument : GoodIn wsX1_setDrift wsX1_checkArgument := goodIn_ca (goodIn_r _ [11, 12, 13] (by decide +kernel) (by decide +kernel)) (goodIn_sub (fun _ h => List.mem_cons_of_mem _ (List.mem_append_right _ h)) (by decide +kernel))
set_option maxRecDepth 20000 in
theorem gX1_setDrift_X1_checkArgument : GoodIn wsX1_setDrift (va_wsS RX1 23 yX1_checkArgument wsX1_checkArgument) := goodIn_app (goodIn_of _ (by decide +kernel)) ggX1_setDrift_X1_checkArgument
theorem dX1_setDrift_0 : decode cX1_setDrift 0 = .ok (.iload_n 1, 1) := by decide +kernel
theorem dX1_setDrift_1 : decode cX1_setDrift 1 = .ok (.invokestatic 19, 3) := by decide +kernel
theorem dX1_setDrift_4 : decode cX1_setDrift 4 = .ok (.iload_n 2, 1) := by decide +kernel
theorem dX1_setDrift_5 : decode cX1_setDrift 5 = .ok (.bipush (-3), 2) := by decide +kernel
theorem dX1_setDrift_7 : decode cX1_setDrift 7 = .ok (.iconst 3, 1) := by decide +kernel
theorem dX1_setDrift_8 : decode cX1_setDrift 8 = .ok (.invokestatic 23, 3) := by decide +kernel
theorem dX1_setDrift_11 : decode cX1_setDrift 11 = .ok (.aload_n 0, 1) := by decide +kernel
theorem dX1_setDrift_12 : decode cX1_setDrift 12 = .ok (.getfield 10, 3) := by decide +kernel
theorem dX1_setDrift_15 : decode cX1_setDrift 15 = .ok (.getfield 55, 3) := by decide +kernel
theorem dX1_setDrift_18 : decode cX1_setDrift 18 = .ok (.iload_n 1, 1) := by decide +kernel
theorem dX1_setDrift_19 : decode cX1_setDrift 19 = .ok (.iaload, 1) := by decide +kernel
theorem dX1_setDrift_20 : decode cX1_setDrift 20 = .ok (.istore_n 3, 1) := by decide +kernel
theorem dX1_setDrift_21 : decode cX1_setDrift 21 = .ok (.aload_n 0, 1) := by decide +kernel
theorem dX1_setDrift_22 : decode cX1_setDrift 22 = .ok (.getfield 10, 3) := by decide +kernel
theorem dX1_setDrift_25 : decode cX1_setDrift 25 = .ok (.getfield 55, 3) := by decide +kernel
theorem dX1_setDrift_28 : decode cX1_setDrift 28 = .ok (.iload_n 1, 1) := by decide +kernel
theorem dX1_setDrift_29 : decode cX1_setDrift 29 = .ok (.iload_n 2, 1) := by decide +kernel
theorem dX1_setDrift_30 : decode cX1_setDrift 30 = .ok (.iastore, 1) := by decide +kernel
theorem dX1_setDrift_31 : decode cX1_setDrift 31 = .ok (.iload_n 3, 1) := by decide +kernel
theorem dX1_setDrift_32 : decode cX1_setDrift 32 = .ok (.ireturn, 1) := by decide +kernel
set_option maxRecDepth 20000 in
theorem ggX1_tune_X1_checkRing : GoodIn wsX1_tune wsX1_checkRing := goodIn_ca (goodIn_r _ [7, 8, 9] (by decide +kernel) (by decide +kernel)) (goodIn_sub (fun _ h => List.mem_cons_of_mem _ (List.mem_append_right _ h)) (by decide +kernel))
set_option maxRecDepth 20000 in
theorem gX1_tune_X1_checkRing : GoodIn wsX1_tune (va_wsS RX1 19 yX1_checkRing wsX1_checkRing) := goodIn_app (goodIn_of _ (by decide +kernel)) ggX1_tune_X1_checkRing
set_option maxRecDepth 20000 in
theorem ggX1_tune_X0_canTune : GoodIn wsX1_tune wsX0_canTune := goodIn_r _ [14, 15, 16, 17, 18, 19, 27, 28, 29, 30, 31, 32] (by decide +kernel) (by decide +kernel)
set_option maxRecDepth 20000 in
theorem gX1_tune_X0_canTune : GoodIn wsX1_tune (wsV RX1 58 RX0 yX0_canTune wsX0_canTune) := goodIn_app (goodIn_of _ (by decide +kernel)) ggX1_tune_X0_canTune
set_option maxRecDepth 20000 in
theorem ggX1_tune_X0_tuneOne : GoodIn wsX1_tune wsX0_tuneOne := goodIn_r _ [23, 24, 16, 17, 18, 19, 27, 28, 29, 30, 31, 32] (by decide +kernel) (by decide +kernel)
set_option maxRecDepth 20000 in
theorem gX1_tune_X0_tuneOne : GoodIn wsX1_tune (wsV RX1 69 RX0 yX0_tuneOne wsX0_tuneOne) := goodIn_app (goodIn_of _ (by decide +kernel)) ggX1_tune_X0_tuneOne
theorem dX1_tune_0 : decode cX1_tune 0 = .ok (.iload_n 1, 1) := by decide +kernel
theorem dX1_tune_1 : decode cX1_tune 1 = .ok (.invokestatic 19, 3) := by decide +kernel
theorem dX1_tune_4 : decode cX1_tune 4 = .ok (.aload_n 0, 1) := by decide +kernel
theorem dX1_tune_5 : decode cX1_tune 5 = .ok (.getfield 10, 3) := by decide +kernel
theorem dX1_tune_8 : decode cX1_tune 8 = .ok (.iload_n 1, 1) := by decide +kernel
theorem dX1_tune_9 : decode cX1_tune 9 = .ok (.invokevirtual 58, 3) := by decide +kernel
theorem dX1_tune_12 : decode cX1_tune 12 = .ok (.ifCond .ne 13, 3) := by decide +kernel
theorem dX1_tune_15 : decode cX1_tune 15 = .ok (.new 62, 3) := by decide +kernel
theorem dX1_tune_18 : decode cX1_tune 18 = .ok (.dup, 1) := by decide +kernel
theorem dX1_tune_19 : decode cX1_tune 19 = .ok (.ldc 64, 2) := by decide +kernel
theorem dX1_tune_21 : decode cX1_tune 21 = .ok (.invokespecial 66, 3) := by decide +kernel
theorem dX1_tune_24 : decode cX1_tune 24 = .ok (.athrow, 1) := by decide +kernel
theorem dX1_tune_25 : decode cX1_tune 25 = .ok (.aload_n 0, 1) := by decide +kernel
theorem dX1_tune_26 : decode cX1_tune 26 = .ok (.getfield 10, 3) := by decide +kernel
theorem dX1_tune_29 : decode cX1_tune 29 = .ok (.iload_n 1, 1) := by decide +kernel
theorem dX1_tune_30 : decode cX1_tune 30 = .ok (.invokevirtual 69, 3) := by decide +kernel
theorem dX1_tune_33 : decode cX1_tune 33 = .ok (.ireturn, 1) := by decide +kernel
set_option maxRecDepth 20000 in
theorem ggX1_tuneAll_X0_tuneRound : GoodIn wsX1_tuneAll wsX0_tuneRound := goodIn_r _ [6, 7, 8, 9, 10, 5, 11, 12, 13, 14, 15, 16, 19, 20, 21, 22, 23, 24] (by decide +kernel) (by decide +kernel)
set_option maxRecDepth 20000 in
theorem gX1_tuneAll_X0_tuneRound : GoodIn wsX1_tuneAll (wsV RX1 73 RX0 yX0_tuneRound wsX0_tuneRound) := goodIn_app (goodIn_of _ (by decide +kernel)) ggX1_tuneAll_X0_tuneRound
theorem dX1_tuneAll_0 : decode cX1_tuneAll 0 = .ok (.aload_n 0, 1) := by decide +kernel
theorem dX1_tuneAll_1 : decode cX1_tuneAll 1 = .ok (.getfield 10, 3) := by decide +kernel
theorem dX1_tuneAll_4 : decode cX1_tuneAll 4 = .ok (.invokevirtual 73, 3) := by decide +kernel
theorem dX1_tuneAll_7 : decode cX1_tuneAll 7 = .ok (.ireturn, 1) := by decide +kernel
set_option maxRecDepth 20000 in
theorem ggX1_sweeten_X1_checkRing : GoodIn wsX1_sweeten wsX1_checkRing := goodIn_ca (goodIn_r _ [8, 9, 10] (by decide +kernel) (by decide +kernel)) (goodIn_sub (fun _ h => List.mem_cons_of_mem _ (List.mem_append_right _ h)) (by decide +kernel))
set_option maxRecDepth 20000 in
theorem gX1_sweeten_X1_checkRing : GoodIn wsX1_sweeten (va_wsS RX1 19 yX1_checkRing wsX1_checkRing) := goodIn_app (goodIn_of _ (by decide +kernel)) ggX1_sweeten_X1_checkRing
set_option maxRecDepth 20000 in
theorem ggX1_sweeten_X0_offForPureMajor : GoodIn wsX1_sweeten wsX0_offForPureMajor := goodIn_r _ [15, 16, 17, 18, 19, 20, 21, 22, 23, 14, 24, 25, 26, 27, 28, 29, 33, 34, 35, 36, 37, 38] (by decide +kernel) (by decide +kernel)
set_option maxRecDepth 20000 in
theorem gX1_sweeten_X0_offForPureMajor : GoodIn wsX1_sweeten (wsV RX1 76 RX0 yX0_offForPureMajor wsX0_offForPureMajor) := goodIn_app (goodIn_of _ (by decide +kernel)) ggX1_sweeten_X0_offForPureMajor
set_option maxRecDepth 20000 in
theorem ggX1_sweeten_J9_floorMod_7cf53 : GoodIn wsX1_sweeten wsJ9_floorMod_7cf53 := goodIn_r _ [20] (by decide +kernel) (by decide +kernel)
set_option maxRecDepth 20000 in
theorem gX1_sweeten_J9_floorMod_7cf53 : GoodIn wsX1_sweeten (va_wsS RX1 84 yJ9_floorMod_7cf53 wsJ9_floorMod_7cf53) := goodIn_app (goodIn_of _ (by decide +kernel)) ggX1_sweeten_J9_floorMod_7cf53
theorem dX1_sweeten_0 : decode cX1_sweeten 0 = .ok (.iload_n 1, 1) := by decide +kernel
theorem dX1_sweeten_1 : decode cX1_sweeten 1 = .ok (.invokestatic 19, 3) := by decide +kernel
theorem dX1_sweeten_4 : decode cX1_sweeten 4 = .ok (.aload_n 0, 1) := by decide +kernel
theorem dX1_sweeten_5 : decode cX1_sweeten 5 = .ok (.getfield 10, 3) := by decide +kernel
theorem dX1_sweeten_8 : decode cX1_sweeten 8 = .ok (.iload_n 1, 1) := by decide +kernel
theorem dX1_sweeten_9 : decode cX1_sweeten 9 = .ok (.invokevirtual 76, 3) := by decide +kernel
theorem dX1_sweeten_12 : decode cX1_sweeten 12 = .ok (.istore_n 2, 1) := by decide +kernel
theorem dX1_sweeten_13 : decode cX1_sweeten 13 = .ok (.iload_n 2, 1) := by decide +kernel
theorem dX1_sweeten_14 : decode cX1_sweeten 14 = .ok (.bipush (-50), 2) := by decide +kernel
theorem dX1_sweeten_16 : decode cX1_sweeten 16 = .ok (.if_icmp .lt 9, 3) := by decide +kernel
theorem dX1_sweeten_19 : decode cX1_sweeten 19 = .ok (.iload_n 2, 1) := by decide +kernel
theorem dX1_sweeten_20 : decode cX1_sweeten 20 = .ok (.bipush 50, 2) := by decide +kernel
theorem dX1_sweeten_22 : decode cX1_sweeten 22 = .ok (.if_icmp .le 13, 3) := by decide +kernel
theorem dX1_sweeten_25 : decode cX1_sweeten 25 = .ok (.new 62, 3) := by decide +kernel
theorem dX1_sweeten_28 : decode cX1_sweeten 28 = .ok (.dup, 1) := by decide +kernel
theorem dX1_sweeten_29 : decode cX1_sweeten 29 = .ok (.ldc 79, 2) := by decide +kernel
theorem dX1_sweeten_31 : decode cX1_sweeten 31 = .ok (.invokespecial 66, 3) := by decide +kernel
theorem dX1_sweeten_34 : decode cX1_sweeten 34 = .ok (.athrow, 1) := by decide +kernel
theorem dX1_sweeten_35 : decode cX1_sweeten 35 = .ok (.aload_n 0, 1) := by decide +kernel
theorem dX1_sweeten_36 : decode cX1_sweeten 36 = .ok (.getfield 10, 3) := by decide +kernel
theorem dX1_sweeten_39 : decode cX1_sweeten 39 = .ok (.getfield 81, 3) := by decide +kernel
theorem dX1_sweeten_42 : decode cX1_sweeten 42 = .ok (.iload_n 1, 1) := by decide +kernel
theorem dX1_sweeten_43 : decode cX1_sweeten 43 = .ok (.iconst 4, 1) := by decide +kernel
theorem dX1_sweeten_44 : decode cX1_sweeten 44 = .ok (.iadd, 1) := by decide +kernel
theorem dX1_sweeten_45 : decode cX1_sweeten 45 = .ok (.bipush 12, 2) := by decide +kernel
theorem dX1_sweeten_47 : decode cX1_sweeten 47 = .ok (.invokestatic 84, 3) := by decide +kernel
theorem dX1_sweeten_50 : decode cX1_sweeten 50 = .ok (.iload_n 2, 1) := by decide +kernel
theorem dX1_sweeten_51 : decode cX1_sweeten 51 = .ok (.iastore, 1) := by decide +kernel
theorem dX1_sweeten_52 : decode cX1_sweeten 52 = .ok (.iload_n 2, 1) := by decide +kernel
theorem dX1_sweeten_53 : decode cX1_sweeten 53 = .ok (.ireturn, 1) := by decide +kernel
set_option maxRecDepth 20000 in
theorem ggX1_pass_X1_checkArgument : GoodIn wsX1_pass wsX1_checkArgument := goodIn_ca (goodIn_r _ [5, 6, 7] (by decide +kernel) (by decide +kernel)) (goodIn_sub (fun _ h => List.mem_cons_of_mem _ (List.mem_append_right _ h)) (by decide +kernel))
set_option maxRecDepth 20000 in
theorem gX1_pass_X1_checkArgument : GoodIn wsX1_pass (va_wsS RX1 23 yX1_checkArgument wsX1_checkArgument) := goodIn_app (goodIn_of _ (by decide +kernel)) ggX1_pass_X1_checkArgument
set_option maxRecDepth 20000 in
theorem ggX1_pass_X0_letPass : GoodIn wsX1_pass wsX0_letPass := goodIn_r _ [12, 13, 14, 15, 16, 17, 18, 19, 20, 21, 22, 32, 33, 34, 35, 36, 37] (by decide +kernel) (by decide +kernel)
set_option maxRecDepth 20000 in
theorem gX1_pass_X0_letPass : GoodIn wsX1_pass (wsV RX1 90 RX0 yX0_letPass wsX0_letPass) := goodIn_app (goodIn_of _ (by decide +kernel)) ggX1_pass_X0_letPass
set_option maxRecDepth 20000 in
theorem ggX1_pass_X0_mostOff : GoodIn wsX1_pass wsX0_mostOff := goodIn_r _ [26, 13, 27, 28, 17, 29, 19, 20, 21, 32, 33, 34, 35, 36, 37] (by decide +kernel) (by decide +kernel)
set_option maxRecDepth 20000 in
theorem gX1_pass_X0_mostOff : GoodIn wsX1_pass (wsV RX1 93 RX0 yX0_mostOff wsX0_mostOff) := goodIn_app (goodIn_of _ (by decide +kernel)) ggX1_pass_X0_mostOff
theorem dX1_pass_0 : decode cX1_pass 0 = .ok (.iload_n 1, 1) := by decide +kernel
theorem dX1_pass_1 : decode cX1_pass 1 = .ok (.iconst 1, 1) := by decide +kernel
theorem dX1_pass_2 : decode cX1_pass 2 = .ok (.bipush 100, 2) := by decide +kernel
theorem dX1_pass_4 : decode cX1_pass 4 = .ok (.invokestatic 23, 3) := by decide +kernel
theorem dX1_pass_7 : decode cX1_pass 7 = .ok (.aload_n 0, 1) := by decide +kernel
theorem dX1_pass_8 : decode cX1_pass 8 = .ok (.getfield 10, 3) := by decide +kernel
theorem dX1_pass_11 : decode cX1_pass 11 = .ok (.iload_n 1, 1) := by decide +kernel
theorem dX1_pass_12 : decode cX1_pass 12 = .ok (.invokevirtual 90, 3) := by decide +kernel
theorem dX1_pass_15 : decode cX1_pass 15 = .ok (.aload_n 0, 1) := by decide +kernel
theorem dX1_pass_16 : decode cX1_pass 16 = .ok (.getfield 10, 3) := by decide +kernel
theorem dX1_pass_19 : decode cX1_pass 19 = .ok (.invokevirtual 93, 3) := by decide +kernel
theorem dX1_pass_22 : decode cX1_pass 22 = .ok (.ireturn, 1) := by decide +kernel
set_option maxRecDepth 20000 in
theorem ggX1_fifth_X1_checkRing : GoodIn wsX1_fifth wsX1_checkRing := goodIn_ca (goodIn_r _ [5, 6, 7] (by decide +kernel) (by decide +kernel)) (goodIn_sub (fun _ h => List.mem_cons_of_mem _ (List.mem_append_right _ h)) (by decide +kernel))
set_option maxRecDepth 20000 in
theorem gX1_fifth_X1_checkRing : GoodIn wsX1_fifth (va_wsS RX1 19 yX1_checkRing wsX1_checkRing) := goodIn_app (goodIn_of _ (by decide +kernel)) ggX1_fifth_X1_checkRing
set_option maxRecDepth 20000 in
theorem ggX1_fifth_X1_checkWhat : GoodIn wsX1_fifth wsX1_checkWhat := goodIn_ca (goodIn_r _ [10, 6, 7] (by decide +kernel) (by decide +kernel)) (goodIn_sub (fun _ h => List.mem_cons_of_mem _ (List.mem_append_right _ h)) (by decide +kernel))
set_option maxRecDepth 20000 in
theorem gX1_fifth_X1_checkWhat : GoodIn wsX1_fifth (va_wsS RX1 96 yX1_checkWhat wsX1_checkWhat) := goodIn_app (goodIn_of _ (by decide +kernel)) ggX1_fifth_X1_checkWhat
set_option maxRecDepth 20000 in
theorem ggX1_fifth_X0_tellFifth : GoodIn wsX1_fifth wsX0_tellFifth := goodIn_r _ [15, 16, 17, 18, 19, 20, 21, 22, 23, 24, 14, 25, 26, 27, 28, 29, 30, 31, 32, 33, 34, 35, 36, 37, 38, 39, 40, 41, 42, 43, 44, 45, 46, 49, 50, 51, 52, 53, 54] (by decide +kernel) (by decide +kernel)
set_option maxRecDepth 20000 in
theorem gX1_fifth_X0_tellFifth : GoodIn wsX1_fifth (wsV RX1 99 RX0 yX0_tellFifth wsX0_tellFifth) := goodIn_app (goodIn_of _ (by decide +kernel)) ggX1_fifth_X0_tellFifth
theorem dX1_fifth_0 : decode cX1_fifth 0 = .ok (.iload_n 1, 1) := by decide +kernel
theorem dX1_fifth_1 : decode cX1_fifth 1 = .ok (.invokestatic 19, 3) := by decide +kernel
theorem dX1_fifth_4 : decode cX1_fifth 4 = .ok (.iload_n 2, 1) := by decide +kernel
theorem dX1_fifth_5 : decode cX1_fifth 5 = .ok (.iconst 0, 1) := by decide +kernel
theorem dX1_fifth_6 : decode cX1_fifth 6 = .ok (.iconst 5, 1) := by decide +kernel
theorem dX1_fifth_7 : decode cX1_fifth 7 = .ok (.invokestatic 96, 3) := by decide +kernel
theorem dX1_fifth_10 : decode cX1_fifth 10 = .ok (.aload_n 0, 1) := by decide +kernel
theorem dX1_fifth_11 : decode cX1_fifth 11 = .ok (.getfield 10, 3) := by decide +kernel
theorem dX1_fifth_14 : decode cX1_fifth 14 = .ok (.iload_n 1, 1) := by decide +kernel
theorem dX1_fifth_15 : decode cX1_fifth 15 = .ok (.iload_n 2, 1) := by decide +kernel
theorem dX1_fifth_16 : decode cX1_fifth 16 = .ok (.invokevirtual 99, 3) := by decide +kernel
theorem dX1_fifth_19 : decode cX1_fifth 19 = .ok (.ireturn, 1) := by decide +kernel
set_option maxRecDepth 20000 in
theorem ggX1_major_X1_checkRing : GoodIn wsX1_major wsX1_checkRing := goodIn_ca (goodIn_r _ [5, 6, 7] (by decide +kernel) (by decide +kernel)) (goodIn_sub (fun _ h => List.mem_cons_of_mem _ (List.mem_append_right _ h)) (by decide +kernel))
set_option maxRecDepth 20000 in
theorem gX1_major_X1_checkRing : GoodIn wsX1_major (va_wsS RX1 19 yX1_checkRing wsX1_checkRing) := goodIn_app (goodIn_of _ (by decide +kernel)) ggX1_major_X1_checkRing
set_option maxRecDepth 20000 in
theorem ggX1_major_X1_checkWhat : GoodIn wsX1_major wsX1_checkWhat := goodIn_ca (goodIn_r _ [10, 6, 7] (by decide +kernel) (by decide +kernel)) (goodIn_sub (fun _ h => List.mem_cons_of_mem _ (List.mem_append_right _ h)) (by decide +kernel))
set_option maxRecDepth 20000 in
theorem gX1_major_X1_checkWhat : GoodIn wsX1_major (va_wsS RX1 96 yX1_checkWhat wsX1_checkWhat) := goodIn_app (goodIn_of _ (by decide +kernel)) ggX1_major_X1_checkWhat
set_option maxRecDepth 20000 in
theorem ggX1_major_X0_tellMajor : GoodIn wsX1_major wsX0_tellMajor := goodIn_r _ [15, 16, 17, 18, 14, 19, 20, 21, 22, 23, 24, 25, 26, 27, 28, 29, 30, 31, 32, 33, 34, 35, 36, 37, 38, 39, 40, 41, 42, 43, 44, 45, 48, 49, 50, 51, 52, 53] (by decide +kernel) (by decide +kernel)
set_option maxRecDepth 20000 in
theorem gX1_major_X0_tellMajor : GoodIn wsX1_major (wsV RX1 102 RX0 yX0_tellMajor wsX0_tellMajor) := goodIn_app (goodIn_of _ (by decide +kernel)) ggX1_major_X0_tellMajor
theorem dX1_major_0 : decode cX1_major 0 = .ok (.iload_n 1, 1) := by decide +kernel
theorem dX1_major_1 : decode cX1_major 1 = .ok (.invokestatic 19, 3) := by decide +kernel
theorem dX1_major_4 : decode cX1_major 4 = .ok (.iload_n 2, 1) := by decide +kernel
theorem dX1_major_5 : decode cX1_major 5 = .ok (.iconst 0, 1) := by decide +kernel
theorem dX1_major_6 : decode cX1_major 6 = .ok (.iconst 3, 1) := by decide +kernel
theorem dX1_major_7 : decode cX1_major 7 = .ok (.invokestatic 96, 3) := by decide +kernel
theorem dX1_major_10 : decode cX1_major 10 = .ok (.aload_n 0, 1) := by decide +kernel
theorem dX1_major_11 : decode cX1_major 11 = .ok (.getfield 10, 3) := by decide +kernel
theorem dX1_major_14 : decode cX1_major 14 = .ok (.iload_n 1, 1) := by decide +kernel
theorem dX1_major_15 : decode cX1_major 15 = .ok (.iload_n 2, 1) := by decide +kernel
theorem dX1_major_16 : decode cX1_major 16 = .ok (.invokevirtual 102, 3) := by decide +kernel
theorem dX1_major_19 : decode cX1_major 19 = .ok (.ireturn, 1) := by decide +kernel
set_option maxRecDepth 20000 in
theorem ggX1_minor_X1_checkRing : GoodIn wsX1_minor wsX1_checkRing := goodIn_ca (goodIn_r _ [5, 6, 7] (by decide +kernel) (by decide +kernel)) (goodIn_sub (fun _ h => List.mem_cons_of_mem _ (List.mem_append_right _ h)) (by decide +kernel))
set_option maxRecDepth 20000 in
theorem gX1_minor_X1_checkRing : GoodIn wsX1_minor (va_wsS RX1 19 yX1_checkRing wsX1_checkRing) := goodIn_app (goodIn_of _ (by decide +kernel)) ggX1_minor_X1_checkRing
set_option maxRecDepth 20000 in
theorem ggX1_minor_X1_checkWhat : GoodIn wsX1_minor wsX1_checkWhat := goodIn_ca (goodIn_r _ [10, 6, 7] (by decide +kernel) (by decide +kernel)) (goodIn_sub (fun _ h => List.mem_cons_of_mem _ (List.mem_append_right _ h)) (by decide +kernel))
set_option maxRecDepth 20000 in
theorem gX1_minor_X1_checkWhat : GoodIn wsX1_minor (va_wsS RX1 96 yX1_checkWhat wsX1_checkWhat) := goodIn_app (goodIn_of _ (by decide +kernel)) ggX1_minor_X1_checkWhat
set_option maxRecDepth 20000 in
theorem ggX1_minor_X0_tellMinor : GoodIn wsX1_minor wsX0_tellMinor := goodIn_r _ [15, 16, 17, 18, 14, 19, 20, 21, 22, 23, 24, 25, 26, 27, 28, 29, 32, 33, 34, 35, 36, 37] (by decide +kernel) (by decide +kernel)
set_option maxRecDepth 20000 in
theorem gX1_minor_X0_tellMinor : GoodIn wsX1_minor (wsV RX1 105 RX0 yX0_tellMinor wsX0_tellMinor) := goodIn_app (goodIn_of _ (by decide +kernel)) ggX1_minor_X0_tellMinor
theorem dX1_minor_0 : decode cX1_minor 0 = .ok (.iload_n 1, 1) := by decide +kernel
theorem dX1_minor_1 : decode cX1_minor 1 = .ok (.invokestatic 19, 3) := by decide +kernel
theorem dX1_minor_4 : decode cX1_minor 4 = .ok (.iload_n 2, 1) := by decide +kernel
theorem dX1_minor_5 : decode cX1_minor 5 = .ok (.iconst 0, 1) := by decide +kernel
theorem dX1_minor_6 : decode cX1_minor 6 = .ok (.iconst 2, 1) := by decide +kernel
theorem dX1_minor_7 : decode cX1_minor 7 = .ok (.invokestatic 96, 3) := by decide +kernel
theorem dX1_minor_10 : decode cX1_minor 10 = .ok (.aload_n 0, 1) := by decide +kernel
theorem dX1_minor_11 : decode cX1_minor 11 = .ok (.getfield 10, 3) := by decide +kernel
theorem dX1_minor_14 : decode cX1_minor 14 = .ok (.iload_n 1, 1) := by decide +kernel
theorem dX1_minor_15 : decode cX1_minor 15 = .ok (.iload_n 2, 1) := by decide +kernel
theorem dX1_minor_16 : decode cX1_minor 16 = .ok (.invokevirtual 105, 3) := by decide +kernel
theorem dX1_minor_19 : decode cX1_minor 19 = .ok (.ireturn, 1) := by decide +kernel
set_option maxRecDepth 20000 in
theorem ggX1_note_X1_checkRing : GoodIn wsX1_note wsX1_checkRing := goodIn_ca (goodIn_r _ [5, 6, 7] (by decide +kernel) (by decide +kernel)) (goodIn_sub (fun _ h => List.mem_cons_of_mem _ (List.mem_append_right _ h)) (by decide +kernel))
set_option maxRecDepth 20000 in
theorem gX1_note_X1_checkRing : GoodIn wsX1_note (va_wsS RX1 19 yX1_checkRing wsX1_checkRing) := goodIn_app (goodIn_of _ (by decide +kernel)) ggX1_note_X1_checkRing
set_option maxRecDepth 20000 in
theorem ggX1_note_X1_checkWhat : GoodIn wsX1_note wsX1_checkWhat := goodIn_ca (goodIn_r _ [10, 6, 7] (by decide +kernel) (by decide +kernel)) (goodIn_sub (fun _ h => List.mem_cons_of_mem _ (List.mem_append_right _ h)) (by decide +kernel))
set_option maxRecDepth 20000 in
theorem gX1_note_X1_checkWhat : GoodIn wsX1_note (va_wsS RX1 96 yX1_checkWhat wsX1_checkWhat) := goodIn_app (goodIn_of _ (by decide +kernel)) ggX1_note_X1_checkWhat
set_option maxRecDepth 20000 in
theorem ggX1_note_X0_tellNote : GoodIn wsX1_note wsX0_tellNote := goodIn_r _ [15, 16, 17, 18, 19, 20, 21, 22, 23, 24, 14, 25, 26, 27, 28, 29, 30, 31, 32, 33, 34, 35, 36, 37, 38, 39, 40, 41, 42, 45, 46, 47, 48, 49, 50] (by decide +kernel) (by decide +kernel)
set_option maxRecDepth 20000 in
theorem gX1_note_X0_tellNote : GoodIn wsX1_note (wsV RX1 108 RX0 yX0_tellNote wsX0_tellNote) := goodIn_app (goodIn_of _ (by decide +kernel)) ggX1_note_X0_tellNote
theorem dX1_note_0 : decode cX1_note 0 = .ok (.iload_n 1, 1) := by decide +kernel
theorem dX1_note_1 : decode cX1_note 1 = .ok (.invokestatic 19, 3) := by decide +kernel
theorem dX1_note_4 : decode cX1_note 4 = .ok (.iload_n 2, 1) := by decide +kernel
theorem dX1_note_5 : decode cX1_note 5 = .ok (.iconst 0, 1) := by decide +kernel
theorem dX1_note_6 : decode cX1_note 6 = .ok (.iconst 5, 1) := by decide +kernel
theorem dX1_note_7 : decode cX1_note 7 = .ok (.invokestatic 96, 3) := by decide +kernel
theorem dX1_note_10 : decode cX1_note 10 = .ok (.aload_n 0, 1) := by decide +kernel
theorem dX1_note_11 : decode cX1_note 11 = .ok (.getfield 10, 3) := by decide +kernel
theorem dX1_note_14 : decode cX1_note 14 = .ok (.iload_n 1, 1) := by decide +kernel
theorem dX1_note_15 : decode cX1_note 15 = .ok (.iload_n 2, 1) := by decide +kernel
theorem dX1_note_16 : decode cX1_note 16 = .ok (.invokevirtual 108, 3) := by decide +kernel
theorem dX1_note_19 : decode cX1_note 19 = .ok (.ireturn, 1) := by decide +kernel
set_option maxRecDepth 20000 in
theorem ggX1_key_X1_checkRing : GoodIn wsX1_key wsX1_checkRing := goodIn_ca (goodIn_r _ [5, 6, 7] (by decide +kernel) (by decide +kernel)) (goodIn_sub (fun _ h => List.mem_cons_of_mem _ (List.mem_append_right _ h)) (by decide +kernel))
set_option maxRecDepth 20000 in
theorem gX1_key_X1_checkRing : GoodIn wsX1_key (va_wsS RX1 19 yX1_checkRing wsX1_checkRing) := goodIn_app (goodIn_of _ (by decide +kernel)) ggX1_key_X1_checkRing
set_option maxRecDepth 20000 in
theorem ggX1_key_X1_checkWhat : GoodIn wsX1_key wsX1_checkWhat := goodIn_ca (goodIn_r _ [10, 6, 7] (by decide +kernel) (by decide +kernel)) (goodIn_sub (fun _ h => List.mem_cons_of_mem _ (List.mem_append_right _ h)) (by decide +kernel))
set_option maxRecDepth 20000 in
theorem gX1_key_X1_checkWhat : GoodIn wsX1_key (va_wsS RX1 96 yX1_checkWhat wsX1_checkWhat) := goodIn_app (goodIn_of _ (by decide +kernel)) ggX1_key_X1_checkWhat
set_option maxRecDepth 20000 in
theorem ggX1_key_X0_tellKey : GoodIn wsX1_key wsX0_tellKey := goodIn_r _ [15, 16, 17, 18, 19, 20, 21, 22, 23, 14, 24, 25, 26, 27, 28, 29, 30, 31, 32, 33, 34, 35, 36, 37, 38, 39, 40, 41, 42, 45, 46, 47, 48, 49, 50] (by decide +kernel) (by decide +kernel)
set_option maxRecDepth 20000 in
theorem gX1_key_X0_tellKey : GoodIn wsX1_key (wsV RX1 111 RX0 yX0_tellKey wsX0_tellKey) := goodIn_app (goodIn_of _ (by decide +kernel)) ggX1_key_X0_tellKey
theorem dX1_key_0 : decode cX1_key 0 = .ok (.iload_n 1, 1) := by decide +kernel
theorem dX1_key_1 : decode cX1_key 1 = .ok (.invokestatic 19, 3) := by decide +kernel
theorem dX1_key_4 : decode cX1_key 4 = .ok (.iload_n 2, 1) := by decide +kernel
theorem dX1_key_5 : decode cX1_key 5 = .ok (.iconst 0, 1) := by decide +kernel
theorem dX1_key_6 : decode cX1_key 6 = .ok (.iconst 4, 1) := by decide +kernel
theorem dX1_key_7 : decode cX1_key 7 = .ok (.invokestatic 96, 3) := by decide +kernel
theorem dX1_key_10 : decode cX1_key 10 = .ok (.aload_n 0, 1) := by decide +kernel
theorem dX1_key_11 : decode cX1_key 11 = .ok (.getfield 10, 3) := by decide +kernel
theorem dX1_key_14 : decode cX1_key 14 = .ok (.iload_n 1, 1) := by decide +kernel
theorem dX1_key_15 : decode cX1_key 15 = .ok (.iload_n 2, 1) := by decide +kernel
theorem dX1_key_16 : decode cX1_key 16 = .ok (.invokevirtual 111, 3) := by decide +kernel
theorem dX1_key_19 : decode cX1_key 19 = .ok (.ireturn, 1) := by decide +kernel
set_option maxRecDepth 20000 in
theorem ggX1_count_X1_checkWhat : GoodIn wsX1_count wsX1_checkWhat := goodIn_ca (goodIn_r _ [5, 6, 7] (by decide +kernel) (by decide +kernel)) (goodIn_sub (fun _ h => List.mem_cons_of_mem _ (List.mem_append_right _ h)) (by decide +kernel))
set_option maxRecDepth 20000 in
theorem gX1_count_X1_checkWhat : GoodIn wsX1_count (va_wsS RX1 96 yX1_checkWhat wsX1_checkWhat) := goodIn_app (goodIn_of _ (by decide +kernel)) ggX1_count_X1_checkWhat
set_option maxRecDepth 20000 in
theorem ggX1_count_X0_tellCount : GoodIn wsX1_count wsX0_tellCount := goodIn_r _ [12, 13, 14, 15, 16, 17, 11, 18, 19, 20, 21, 22, 23, 24, 25, 26, 27, 28, 29, 30, 31, 32, 33, 34, 35, 36, 37, 38, 39, 40, 41, 42, 43, 44, 45, 46, 47, 48, 49, 50, 51, 52, 53, 54, 55, 56, 57, 58, 59, 60, 61, 62, 63, 64, 65, 66, 67, 68, 69, 70, 71, 72, 75, 76, 77, 78, 79, 80] (by decide +kernel) (by decide +kernel)
set_option maxRecDepth 20000 in
theorem gX1_count_X0_tellCount : GoodIn wsX1_count (wsV RX1 114 RX0 yX0_tellCount wsX0_tellCount) := goodIn_app (goodIn_of _ (by decide +kernel)) ggX1_count_X0_tellCount
theorem dX1_count_0 : decode cX1_count 0 = .ok (.iload_n 1, 1) := by decide +kernel
theorem dX1_count_1 : decode cX1_count 1 = .ok (.iconst 0, 1) := by decide +kernel
theorem dX1_count_2 : decode cX1_count 2 = .ok (.bipush 7, 2) := by decide +kernel
theorem dX1_count_4 : decode cX1_count 4 = .ok (.invokestatic 96, 3) := by decide +kernel
theorem dX1_count_7 : decode cX1_count 7 = .ok (.aload_n 0, 1) := by decide +kernel
theorem dX1_count_8 : decode cX1_count 8 = .ok (.getfield 10, 3) := by decide +kernel
theorem dX1_count_11 : decode cX1_count 11 = .ok (.iload_n 1, 1) := by decide +kernel
theorem dX1_count_12 : decode cX1_count 12 = .ok (.invokevirtual 114, 3) := by decide +kernel
theorem dX1_count_15 : decode cX1_count 15 = .ok (.ireturn, 1) := by decide +kernel
set_option maxRecDepth 20000 in
theorem ggX1_foresee_X1_checkArgument : GoodIn wsX1_foresee wsX1_checkArgument := goodIn_ca (goodIn_r _ [5, 6, 7] (by decide +kernel) (by decide +kernel)) (goodIn_sub (fun _ h => List.mem_cons_of_mem _ (List.mem_append_left _ (List.mem_append_right _ h))) (by decide +kernel))
set_option maxRecDepth 20000 in
theorem gX1_foresee_X1_checkArgument : GoodIn wsX1_foresee (va_wsS RX1 23 yX1_checkArgument wsX1_checkArgument) := goodIn_app (goodIn_of _ (by decide +kernel)) ggX1_foresee_X1_checkArgument
set_option maxRecDepth 20000 in
theorem ggX1_foresee_X1_checkWhat : GoodIn wsX1_foresee wsX1_checkWhat := goodIn_ca (goodIn_r _ [10, 11, 12] (by decide +kernel) (by decide +kernel)) (goodIn_sub (fun _ h => List.mem_cons_of_mem _ (List.mem_append_right _ h)) (by decide +kernel))
set_option maxRecDepth 20000 in
theorem gX1_foresee_X1_checkWhat : GoodIn wsX1_foresee (va_wsS RX1 96 yX1_checkWhat wsX1_checkWhat) := goodIn_app (goodIn_of _ (by decide +kernel)) ggX1_foresee_X1_checkWhat
set_option maxRecDepth 20000 in
theorem ggX1_foresee_X1_startTrial : GoodIn wsX1_foresee wsX1_startTrial := goodIn_r _ [16, 1, 17, 18, 19, 20, 21, 22, 23, 97, 98, 99, 100, 101, 102, 103, 104] (by decide +kernel) (by decide +kernel)
set_option maxRecDepth 20000 in
theorem gX1_foresee_X1_startTrial : GoodIn wsX1_foresee (wsV RX1 117 RX1 yX1_startTrial wsX1_startTrial) := goodIn_app (goodIn_of _ (by decide +kernel)) ggX1_foresee_X1_startTrial
set_option maxRecDepth 20000 in
theorem ggX1_foresee_X0_letPass : GoodIn wsX1_foresee wsX0_letPass := goodIn_r _ [28, 29, 30, 31, 32, 33, 34, 35, 36, 37, 38, 99, 100, 101, 102, 103, 104] (by decide +kernel) (by decide +kernel)
set_option maxRecDepth 20000 in
theorem gX1_foresee_X0_letPass : GoodIn wsX1_foresee (wsV RX1 90 RX0 yX0_letPass wsX0_letPass) := goodIn_app (goodIn_of _ (by decide +kernel)) ggX1_foresee_X0_letPass
set_option maxRecDepth 20000 in
theorem ggX1_foresee_X0_tellCount : GoodIn wsX1_foresee wsX0_tellCount := goodIn_r _ [42, 38, 43, 44, 45, 46, 27, 47, 48, 49, 50, 51, 52, 53, 54, 33, 55, 56, 57, 58, 59, 60, 61, 62, 63, 64, 29, 65, 66, 67, 68, 69, 70, 71, 72, 35, 36, 37, 73, 74, 75, 76, 77, 78, 79, 80, 81, 82, 83, 84, 85, 86, 87, 88, 89, 90, 91, 92, 93, 94, 95, 96, 99, 100, 101, 102, 103, 104] (by decide +kernel) (by decide +kernel)
set_option maxRecDepth 20000 in
theorem gX1_foresee_X0_tellCount : GoodIn wsX1_foresee (wsV RX1 114 RX0 yX0_tellCount wsX0_tellCount) := goodIn_app (goodIn_of _ (by decide +kernel)) ggX1_foresee_X0_tellCount
theorem dX1_foresee_0 : decode cX1_foresee 0 = .ok (.iload_n 1, 1) := by decide +kernel
theorem dX1_foresee_1 : decode cX1_foresee 1 = .ok (.iconst 1, 1) := by decide +kernel
theorem dX1_foresee_2 : decode cX1_foresee 2 = .ok (.bipush 100, 2) := by decide +kernel
theorem dX1_foresee_4 : decode cX1_foresee 4 = .ok (.invokestatic 23, 3) := by decide +kernel
theorem dX1_foresee_7 : decode cX1_foresee 7 = .ok (.iload_n 2, 1) := by decide +kernel
theorem dX1_foresee_8 : decode cX1_foresee 8 = .ok (.iconst 2, 1) := by decide +kernel
theorem dX1_foresee_9 : decode cX1_foresee 9 = .ok (.bipush 7, 2) := by decide +kernel
theorem dX1_foresee_11 : decode cX1_foresee 11 = .ok (.invokestatic 96, 3) := by decide +kernel
theorem dX1_foresee_14 : decode cX1_foresee 14 = .ok (.aload_n 0, 1) := by decide +kernel
theorem dX1_foresee_15 : decode cX1_foresee 15 = .ok (.invokevirtual 117, 3) := by decide +kernel
theorem dX1_foresee_18 : decode cX1_foresee 18 = .ok (.aload_n 0, 1) := by decide +kernel
theorem dX1_foresee_19 : decode cX1_foresee 19 = .ok (.getfield 16, 3) := by decide +kernel
theorem dX1_foresee_22 : decode cX1_foresee 22 = .ok (.iload_n 1, 1) := by decide +kernel
theorem dX1_foresee_23 : decode cX1_foresee 23 = .ok (.invokevirtual 90, 3) := by decide +kernel
theorem dX1_foresee_26 : decode cX1_foresee 26 = .ok (.aload_n 0, 1) := by decide +kernel
theorem dX1_foresee_27 : decode cX1_foresee 27 = .ok (.getfield 16, 3) := by decide +kernel
theorem dX1_foresee_30 : decode cX1_foresee 30 = .ok (.iload_n 2, 1) := by decide +kernel
theorem dX1_foresee_31 : decode cX1_foresee 31 = .ok (.invokevirtual 114, 3) := by decide +kernel
theorem dX1_foresee_34 : decode cX1_foresee 34 = .ok (.ireturn, 1) := by decide +kernel
set_option maxRecDepth 20000 in
theorem ggX1_until_X1_checkArgument : GoodIn wsX1_until wsX1_checkArgument := goodIn_ca (goodIn_r _ [5, 6, 7] (by decide +kernel) (by decide +kernel)) (goodIn_sub (fun _ h => List.mem_cons_of_mem _ (List.mem_append_right _ h)) (by decide +kernel))
set_option maxRecDepth 20000 in
theorem gX1_until_X1_checkArgument : GoodIn wsX1_until (va_wsS RX1 23 yX1_checkArgument wsX1_checkArgument) := goodIn_app (goodIn_of _ (by decide +kernel)) ggX1_until_X1_checkArgument
set_option maxRecDepth 20000 in
theorem ggX1_until_X1_startTrial : GoodIn wsX1_until wsX1_startTrial := goodIn_r _ [11, 1, 12, 13, 14, 15, 16, 17, 18, 63, 64, 65, 66, 67, 68, 69, 70] (by decide +kernel) (by decide +kernel)
set_option maxRecDepth 20000 in
theorem gX1_until_X1_startTrial : GoodIn wsX1_until (wsV RX1 117 RX1 yX1_startTrial wsX1_startTrial) := goodIn_app (goodIn_of _ (by decide +kernel)) ggX1_until_X1_startTrial
set_option maxRecDepth 20000 in
theorem ggX1_until_X0_fastestBeats : GoodIn wsX1_until wsX0_fastestBeats := goodIn_r _ [23, 24, 25, 26, 27, 28, 29, 30, 31, 22, 32, 33, 34, 35, 36, 37, 38, 39, 40, 41, 42, 43, 44, 45, 46, 47, 48, 49, 50, 51, 52, 53, 65, 66, 67, 68, 69, 70] (by decide +kernel) (by decide +kernel)
set_option maxRecDepth 20000 in
theorem gX1_until_X0_fastestBeats : GoodIn wsX1_until (wsV RX1 120 RX0 yX0_fastestBeats wsX0_fastestBeats) := goodIn_app (goodIn_of _ (by decide +kernel)) ggX1_until_X0_fastestBeats
set_option maxRecDepth 20000 in
theorem ggX1_until_X0_letPass : GoodIn wsX1_until wsX0_letPass := goodIn_r _ [57, 53, 58, 59, 60, 27, 61, 25, 26, 28, 62, 65, 66, 67, 68, 69, 70] (by decide +kernel) (by decide +kernel)
set_option maxRecDepth 20000 in
theorem gX1_until_X0_letPass : GoodIn wsX1_until (wsV RX1 90 RX0 yX0_letPass wsX0_letPass) := goodIn_app (goodIn_of _ (by decide +kernel)) ggX1_until_X0_letPass
theorem dX1_until_0 : decode cX1_until 0 = .ok (.iload_n 1, 1) := by decide +kernel
theorem dX1_until_1 : decode cX1_until 1 = .ok (.iconst 1, 1) := by decide +kernel
theorem dX1_until_2 : decode cX1_until 2 = .ok (.sipush 9999, 3) := by decide +kernel
theorem dX1_until_5 : decode cX1_until 5 = .ok (.invokestatic 23, 3) := by decide +kernel
theorem dX1_until_8 : decode cX1_until 8 = .ok (.aload_n 0, 1) := by decide +kernel
theorem dX1_until_9 : decode cX1_until 9 = .ok (.invokevirtual 117, 3) := by decide +kernel
theorem dX1_until_12 : decode cX1_until 12 = .ok (.iconst 0, 1) := by decide +kernel
theorem dX1_until_13 : decode cX1_until 13 = .ok (.istore_n 2, 1) := by decide +kernel
theorem dX1_until_14 : decode cX1_until 14 = .ok (.iload_n 2, 1) := by decide +kernel
theorem dX1_until_15 : decode cX1_until 15 = .ok (.sipush 200, 3) := by decide +kernel
theorem dX1_until_18 : decode cX1_until 18 = .ok (.if_icmp .gt 30, 3) := by decide +kernel
theorem dX1_until_21 : decode cX1_until 21 = .ok (.aload_n 0, 1) := by decide +kernel
theorem dX1_until_22 : decode cX1_until 22 = .ok (.getfield 16, 3) := by decide +kernel
theorem dX1_until_25 : decode cX1_until 25 = .ok (.invokevirtual 120, 3) := by decide +kernel
theorem dX1_until_28 : decode cX1_until 28 = .ok (.iload_n 1, 1) := by decide +kernel
theorem dX1_until_29 : decode cX1_until 29 = .ok (.if_icmp .lt 5, 3) := by decide +kernel
theorem dX1_until_32 : decode cX1_until 32 = .ok (.iload_n 2, 1) := by decide +kernel
theorem dX1_until_33 : decode cX1_until 33 = .ok (.ireturn, 1) := by decide +kernel
theorem dX1_until_34 : decode cX1_until 34 = .ok (.aload_n 0, 1) := by decide +kernel
theorem dX1_until_35 : decode cX1_until 35 = .ok (.getfield 16, 3) := by decide +kernel
theorem dX1_until_38 : decode cX1_until 38 = .ok (.iconst 1, 1) := by decide +kernel
theorem dX1_until_39 : decode cX1_until 39 = .ok (.invokevirtual 90, 3) := by decide +kernel
theorem dX1_until_42 : decode cX1_until 42 = .ok (.iinc 2 1, 3) := by decide +kernel
theorem dX1_until_45 : decode cX1_until 45 = .ok (.goto (-31), 3) := by decide +kernel
theorem dX1_until_48 : decode cX1_until 48 = .ok (.iconst (-1), 1) := by decide +kernel
theorem dX1_until_49 : decode cX1_until 49 = .ok (.ireturn, 1) := by decide +kernel
set_option maxRecDepth 20000 in
theorem ggX1_advise_X1_costWithWolf : GoodIn wsX1_advise wsX1_costWithWolf := goodIn_r _ [5, 6, 7, 8, 9, 4, 10, 11, 12, 13, 14, 15, 16, 17, 18, 19, 20, 21, 22, 23, 24, 25, 26, 27, 28, 29, 30, 31, 32, 33, 34, 35, 36, 37, 38, 39, 40, 41, 42, 43, 44, 45, 46, 47, 48, 49, 50, 51, 52, 53, 54, 55, 56, 57, 58] (by decide +kernel) (by decide +kernel)
set_option maxRecDepth 20000 in
theorem gX1_advise_X1_costWithWolf : GoodIn wsX1_advise (wsV RX1 123 RX1 yX1_costWithWolf wsX1_costWithWolf) := goodIn_app (goodIn_of _ (by decide +kernel)) ggX1_advise_X1_costWithWolf
theorem dX1_advise_0 : decode cX1_advise 0 = .ok (.iconst 0, 1) := by decide +kernel
theorem dX1_advise_1 : decode cX1_advise 1 = .ok (.istore_n 1, 1) := by decide +kernel
theorem dX1_advise_2 : decode cX1_advise 2 = .ok (.aload_n 0, 1) := by decide +kernel
theorem dX1_advise_3 : decode cX1_advise 3 = .ok (.iconst 0, 1) := by decide +kernel
theorem dX1_advise_4 : decode cX1_advise 4 = .ok (.invokevirtual 123, 3) := by decide +kernel
theorem dX1_advise_7 : decode cX1_advise 7 = .ok (.istore_n 2, 1) := by decide +kernel
theorem dX1_advise_8 : decode cX1_advise 8 = .ok (.iconst 1, 1) := by decide +kernel
theorem dX1_advise_9 : decode cX1_advise 9 = .ok (.istore_n 3, 1) := by decide +kernel
theorem dX1_advise_10 : decode cX1_advise 10 = .ok (.iload_n 3, 1) := by decide +kernel
theorem dX1_advise_11 : decode cX1_advise 11 = .ok (.bipush 12, 2) := by decide +kernel
theorem dX1_advise_13 : decode cX1_advise 13 = .ok (.if_icmp .ge 27, 3) := by decide +kernel
theorem dX1_advise_16 : decode cX1_advise 16 = .ok (.aload_n 0, 1) := by decide +kernel
theorem dX1_advise_17 : decode cX1_advise 17 = .ok (.iload_n 3, 1) := by decide +kernel
theorem dX1_advise_18 : decode cX1_advise 18 = .ok (.invokevirtual 123, 3) := by decide +kernel
theorem dX1_advise_21 : decode cX1_advise 21 = .ok (.istore 4, 2) := by decide +kernel
theorem dX1_advise_23 : decode cX1_advise 23 = .ok (.iload 4, 2) := by decide +kernel
theorem dX1_advise_25 : decode cX1_advise 25 = .ok (.iload_n 2, 1) := by decide +kernel
theorem dX1_advise_26 : decode cX1_advise 26 = .ok (.if_icmp .ge 8, 3) := by decide +kernel
theorem dX1_advise_29 : decode cX1_advise 29 = .ok (.iload 4, 2) := by decide +kernel
theorem dX1_advise_31 : decode cX1_advise 31 = .ok (.istore_n 2, 1) := by decide +kernel
theorem dX1_advise_32 : decode cX1_advise 32 = .ok (.iload_n 3, 1) := by decide +kernel
theorem dX1_advise_33 : decode cX1_advise 33 = .ok (.istore_n 1, 1) := by decide +kernel
theorem dX1_advise_34 : decode cX1_advise 34 = .ok (.iinc 3 1, 3) := by decide +kernel
theorem dX1_advise_37 : decode cX1_advise 37 = .ok (.goto (-27), 3) := by decide +kernel
theorem dX1_advise_40 : decode cX1_advise 40 = .ok (.iload_n 1, 1) := by decide +kernel
theorem dX1_advise_41 : decode cX1_advise 41 = .ok (.ireturn, 1) := by decide +kernel
set_option maxRecDepth 20000 in
theorem ggX1_temper_X1_checkRing : GoodIn wsX1_temper wsX1_checkRing := goodIn_ca (goodIn_r _ [4, 5, 6] (by decide +kernel) (by decide +kernel)) (goodIn_sub (fun _ h => List.mem_cons_of_mem _ (List.mem_append_left _ (List.mem_append_right _ h))) (by decide +kernel))
set_option maxRecDepth 20000 in
theorem gX1_temper_X1_checkRing : GoodIn wsX1_temper (va_wsS RX1 19 yX1_checkRing wsX1_checkRing) := goodIn_app (goodIn_of _ (by decide +kernel)) ggX1_temper_X1_checkRing
set_option maxRecDepth 20000 in
theorem ggX1_temper_X1_checkNotWolf : GoodIn wsX1_temper wsX1_checkNotWolf := goodIn_ca (goodIn_r _ [10, 11, 12, 13, 14, 66, 67, 68, 69, 70, 71, 72, 73] (by decide +kernel) (by decide +kernel)) (goodIn_sub (fun _ h => List.mem_cons_of_mem _ (List.mem_append_right _ h)) (by decide +kernel))
set_option maxRecDepth 20000 in
theorem gX1_temper_X1_checkNotWolf : GoodIn wsX1_temper (wsV RX1 27 RX1 yX1_checkNotWolf wsX1_checkNotWolf) := goodIn_app (goodIn_of _ (by decide +kernel)) ggX1_temper_X1_checkNotWolf
set_option maxRecDepth 20000 in
theorem ggX1_temper_X1_costWithNarrow : GoodIn wsX1_temper wsX1_costWithNarrow := goodIn_r _ [18, 19, 20, 21, 22, 3, 23, 24, 13, 25, 26, 27, 14, 28, 29, 30, 31, 32, 33, 34, 35, 36, 37, 38, 39, 40, 41, 42, 43, 44, 45, 46, 47, 48, 49, 50, 51, 52, 53, 54, 55, 56, 57, 58, 59, 60, 61, 62, 63, 64, 65, 66, 67, 68, 69, 70, 71, 72, 73] (by decide +kernel) (by decide +kernel)
set_option maxRecDepth 20000 in
theorem gX1_temper_X1_costWithNarrow : GoodIn wsX1_temper (wsV RX1 126 RX1 yX1_costWithNarrow wsX1_costWithNarrow) := goodIn_app (goodIn_of _ (by decide +kernel)) ggX1_temper_X1_costWithNarrow
theorem dX1_temper_0 : decode cX1_temper 0 = .ok (.iload_n 1, 1) := by decide +kernel
theorem dX1_temper_1 : decode cX1_temper 1 = .ok (.invokestatic 19, 3) := by decide +kernel
theorem dX1_temper_4 : decode cX1_temper 4 = .ok (.aload_n 0, 1) := by decide +kernel
theorem dX1_temper_5 : decode cX1_temper 5 = .ok (.iload_n 1, 1) := by decide +kernel
theorem dX1_temper_6 : decode cX1_temper 6 = .ok (.invokevirtual 27, 3) := by decide +kernel
theorem dX1_temper_9 : decode cX1_temper 9 = .ok (.bipush (-10), 2) := by decide +kernel
theorem dX1_temper_11 : decode cX1_temper 11 = .ok (.istore_n 2, 1) := by decide +kernel
theorem dX1_temper_12 : decode cX1_temper 12 = .ok (.aload_n 0, 1) := by decide +kernel
theorem dX1_temper_13 : decode cX1_temper 13 = .ok (.iload_n 1, 1) := by decide +kernel
theorem dX1_temper_14 : decode cX1_temper 14 = .ok (.bipush (-10), 2) := by decide +kernel
theorem dX1_temper_16 : decode cX1_temper 16 = .ok (.invokevirtual 126, 3) := by decide +kernel
theorem dX1_temper_19 : decode cX1_temper 19 = .ok (.istore_n 3, 1) := by decide +kernel
theorem dX1_temper_20 : decode cX1_temper 20 = .ok (.bipush (-9), 2) := by decide +kernel
theorem dX1_temper_22 : decode cX1_temper 22 = .ok (.istore 4, 2) := by decide +kernel
theorem dX1_temper_24 : decode cX1_temper 24 = .ok (.iload 4, 2) := by decide +kernel
theorem dX1_temper_26 : decode cX1_temper 26 = .ok (.bipush 20, 2) := by decide +kernel
theorem dX1_temper_28 : decode cX1_temper 28 = .ok (.if_icmp .gt 30, 3) := by decide +kernel
theorem dX1_temper_31 : decode cX1_temper 31 = .ok (.aload_n 0, 1) := by decide +kernel
theorem dX1_temper_32 : decode cX1_temper 32 = .ok (.iload_n 1, 1) := by decide +kernel
theorem dX1_temper_33 : decode cX1_temper 33 = .ok (.iload 4, 2) := by decide +kernel
theorem dX1_temper_35 : decode cX1_temper 35 = .ok (.invokevirtual 126, 3) := by decide +kernel
theorem dX1_temper_38 : decode cX1_temper 38 = .ok (.istore 5, 2) := by decide +kernel
theorem dX1_temper_40 : decode cX1_temper 40 = .ok (.iload 5, 2) := by decide +kernel
theorem dX1_temper_42 : decode cX1_temper 42 = .ok (.iload_n 3, 1) := by decide +kernel
theorem dX1_temper_43 : decode cX1_temper 43 = .ok (.if_icmp .ge 9, 3) := by decide +kernel
theorem dX1_temper_46 : decode cX1_temper 46 = .ok (.iload 5, 2) := by decide +kernel
theorem dX1_temper_48 : decode cX1_temper 48 = .ok (.istore_n 3, 1) := by decide +kernel
theorem dX1_temper_49 : decode cX1_temper 49 = .ok (.iload 4, 2) := by decide +kernel
theorem dX1_temper_51 : decode cX1_temper 51 = .ok (.istore_n 2, 1) := by decide +kernel
theorem dX1_temper_52 : decode cX1_temper 52 = .ok (.iinc 4 1, 3) := by decide +kernel
theorem dX1_temper_55 : decode cX1_temper 55 = .ok (.goto (-31), 3) := by decide +kernel
theorem dX1_temper_58 : decode cX1_temper 58 = .ok (.iload_n 2, 1) := by decide +kernel
theorem dX1_temper_59 : decode cX1_temper 59 = .ok (.ireturn, 1) := by decide +kernel
set_option maxRecDepth 20000 in
theorem ggX1_next_X0_cost : GoodIn wsX1_next wsX0_cost := goodIn_r _ [6, 7, 8, 9, 10, 5, 11, 12, 13, 14, 15, 16, 17, 18, 19, 20, 21, 22, 23, 24, 25, 26, 27, 28, 29, 57, 58, 59, 60, 61, 62] (by decide +kernel) (by decide +kernel)
set_option maxRecDepth 20000 in
theorem gX1_next_X0_cost : GoodIn wsX1_next (wsV RX1 129 RX0 yX0_cost wsX0_cost) := goodIn_app (goodIn_of _ (by decide +kernel)) ggX1_next_X0_cost
set_option maxRecDepth 20000 in
theorem ggX1_next_X0_canTune : GoodIn wsX1_next wsX0_canTune := goodIn_r _ [33, 34, 26, 27, 28, 29, 57, 58, 59, 60, 61, 62] (by decide +kernel) (by decide +kernel)
set_option maxRecDepth 20000 in
theorem gX1_next_X0_canTune : GoodIn wsX1_next (wsV RX1 58 RX0 yX0_canTune wsX0_canTune) := goodIn_app (goodIn_of _ (by decide +kernel)) ggX1_next_X0_canTune
set_option maxRecDepth 20000 in
theorem ggX1_next_X1_costWithTuned : GoodIn wsX1_next wsX1_costWithTuned := goodIn_r _ [39, 40, 41, 42, 43, 38, 44, 45, 1, 46, 47, 48, 49, 50, 51, 52, 53, 5, 54, 25, 26, 27, 28, 29, 2, 3, 4, 6, 7, 8, 9, 10, 11, 12, 13, 14, 15, 16, 17, 18, 19, 20, 21, 22, 23, 24, 55, 56, 57, 58, 59, 60, 61, 62] (by decide +kernel) (by decide +kernel)
set_option maxRecDepth 20000 in
theorem gX1_next_X1_costWithTuned : GoodIn wsX1_next (wsV RX1 132 RX1 yX1_costWithTuned wsX1_costWithTuned) := goodIn_app (goodIn_of _ (by decide +kernel)) ggX1_next_X1_costWithTuned
theorem dX1_next_0 : decode cX1_next 0 = .ok (.iconst (-1), 1) := by decide +kernel
theorem dX1_next_1 : decode cX1_next 1 = .ok (.istore_n 1, 1) := by decide +kernel
theorem dX1_next_2 : decode cX1_next 2 = .ok (.aload_n 0, 1) := by decide +kernel
theorem dX1_next_3 : decode cX1_next 3 = .ok (.getfield 10, 3) := by decide +kernel
theorem dX1_next_6 : decode cX1_next 6 = .ok (.invokevirtual 129, 3) := by decide +kernel
theorem dX1_next_9 : decode cX1_next 9 = .ok (.istore_n 2, 1) := by decide +kernel
theorem dX1_next_10 : decode cX1_next 10 = .ok (.iconst 0, 1) := by decide +kernel
theorem dX1_next_11 : decode cX1_next 11 = .ok (.istore_n 3, 1) := by decide +kernel
theorem dX1_next_12 : decode cX1_next 12 = .ok (.iload_n 3, 1) := by decide +kernel
theorem dX1_next_13 : decode cX1_next 13 = .ok (.bipush 12, 2) := by decide +kernel
theorem dX1_next_15 : decode cX1_next 15 = .ok (.if_icmp .ge 38, 3) := by decide +kernel
theorem dX1_next_18 : decode cX1_next 18 = .ok (.aload_n 0, 1) := by decide +kernel
theorem dX1_next_19 : decode cX1_next 19 = .ok (.getfield 10, 3) := by decide +kernel
theorem dX1_next_22 : decode cX1_next 22 = .ok (.iload_n 3, 1) := by decide +kernel
theorem dX1_next_23 : decode cX1_next 23 = .ok (.invokevirtual 58, 3) := by decide +kernel
theorem dX1_next_26 : decode cX1_next 26 = .ok (.ifCond .eq 21, 3) := by decide +kernel
theorem dX1_next_29 : decode cX1_next 29 = .ok (.aload_n 0, 1) := by decide +kernel
theorem dX1_next_30 : decode cX1_next 30 = .ok (.iload_n 3, 1) := by decide +kernel
theorem dX1_next_31 : decode cX1_next 31 = .ok (.invokevirtual 132, 3) := by decide +kernel
theorem dX1_next_34 : decode cX1_next 34 = .ok (.istore 4, 2) := by decide +kernel
theorem dX1_next_36 : decode cX1_next 36 = .ok (.iload 4, 2) := by decide +kernel
theorem dX1_next_38 : decode cX1_next 38 = .ok (.iload_n 2, 1) := by decide +kernel
theorem dX1_next_39 : decode cX1_next 39 = .ok (.if_icmp .ge 8, 3) := by decide +kernel
theorem dX1_next_42 : decode cX1_next 42 = .ok (.iload 4, 2) := by decide +kernel
theorem dX1_next_44 : decode cX1_next 44 = .ok (.istore_n 2, 1) := by decide +kernel
theorem dX1_next_45 : decode cX1_next 45 = .ok (.iload_n 3, 1) := by decide +kernel
theorem dX1_next_46 : decode cX1_next 46 = .ok (.istore_n 1, 1) := by decide +kernel
theorem dX1_next_47 : decode cX1_next 47 = .ok (.iinc 3 1, 3) := by decide +kernel
theorem dX1_next_50 : decode cX1_next 50 = .ok (.goto (-38), 3) := by decide +kernel
theorem dX1_next_53 : decode cX1_next 53 = .ok (.iload_n 1, 1) := by decide +kernel
theorem dX1_next_54 : decode cX1_next 54 = .ok (.ireturn, 1) := by decide +kernel
set_option maxRecDepth 20000 in
theorem ggX1_mean_X0_sourness : GoodIn wsX1_mean wsX0_sourness := goodIn_r _ [7, 8, 9, 10, 11, 12, 13, 14, 6, 15, 16, 17, 18, 19, 20, 21, 22, 23, 24, 25, 28, 29, 30, 31, 32, 33] (by decide +kernel) (by decide +kernel)
set_option maxRecDepth 20000 in
theorem gX1_mean_X0_sourness : GoodIn wsX1_mean (wsV RX1 135 RX0 yX0_sourness wsX0_sourness) := goodIn_app (goodIn_of _ (by decide +kernel)) ggX1_mean_X0_sourness
theorem dX1_mean_0 : decode cX1_mean 0 = .ok (.iconst 0, 1) := by decide +kernel
theorem dX1_mean_1 : decode cX1_mean 1 = .ok (.istore_n 1, 1) := by decide +kernel
theorem dX1_mean_2 : decode cX1_mean 2 = .ok (.iconst 0, 1) := by decide +kernel
theorem dX1_mean_3 : decode cX1_mean 3 = .ok (.istore_n 2, 1) := by decide +kernel
theorem dX1_mean_4 : decode cX1_mean 4 = .ok (.iload_n 2, 1) := by decide +kernel
theorem dX1_mean_5 : decode cX1_mean 5 = .ok (.bipush 12, 2) := by decide +kernel
theorem dX1_mean_7 : decode cX1_mean 7 = .ok (.if_icmp .ge 20, 3) := by decide +kernel
theorem dX1_mean_10 : decode cX1_mean 10 = .ok (.iload_n 1, 1) := by decide +kernel
theorem dX1_mean_11 : decode cX1_mean 11 = .ok (.aload_n 0, 1) := by decide +kernel
theorem dX1_mean_12 : decode cX1_mean 12 = .ok (.getfield 10, 3) := by decide +kernel
theorem dX1_mean_15 : decode cX1_mean 15 = .ok (.iload_n 2, 1) := by decide +kernel
theorem dX1_mean_16 : decode cX1_mean 16 = .ok (.invokevirtual 135, 3) := by decide +kernel
theorem dX1_mean_19 : decode cX1_mean 19 = .ok (.iadd, 1) := by decide +kernel
theorem dX1_mean_20 : decode cX1_mean 20 = .ok (.istore_n 1, 1) := by decide +kernel
theorem dX1_mean_21 : decode cX1_mean 21 = .ok (.iinc 2 1, 3) := by decide +kernel
theorem dX1_mean_24 : decode cX1_mean 24 = .ok (.goto (-20), 3) := by decide +kernel
theorem dX1_mean_27 : decode cX1_mean 27 = .ok (.iload_n 1, 1) := by decide +kernel
theorem dX1_mean_28 : decode cX1_mean 28 = .ok (.i2d, 1) := by decide +kernel
theorem dX1_mean_29 : decode cX1_mean 29 = .ok (.ldc2_w 138, 3) := by decide +kernel
theorem dX1_mean_32 : decode cX1_mean 32 = .ok (.ddiv, 1) := by decide +kernel
theorem dX1_mean_33 : decode cX1_mean 33 = .ok (.dreturn, 1) := by decide +kernel
set_option maxRecDepth 20000 in
theorem ggX1_digest_X0_tellCount : GoodIn wsX1_digest wsX0_tellCount := goodIn_r _ [8, 9, 10, 11, 12, 13, 7, 14, 15, 16, 17, 18, 19, 20, 21, 22, 23, 24, 25, 26, 27, 28, 29, 30, 31, 32, 33, 34, 35, 36, 37, 38, 39, 40, 41, 42, 43, 44, 45, 46, 47, 48, 49, 50, 51, 52, 53, 54, 55, 56, 57, 58, 59, 60, 61, 62, 63, 64, 65, 66, 67, 68, 112, 113, 114, 115, 116, 117] (by decide +kernel) (by decide +kernel)
set_option maxRecDepth 20000 in
theorem gX1_digest_X0_tellCount : GoodIn wsX1_digest (wsV RX1 114 RX0 yX0_tellCount wsX0_tellCount) := goodIn_app (goodIn_of _ (by decide +kernel)) ggX1_digest_X0_tellCount
set_option maxRecDepth 20000 in
theorem ggX1_digest_X0_tellFifth : GoodIn wsX1_digest wsX0_tellFifth := goodIn_r _ [72, 32, 10, 34, 35, 36, 37, 28, 29, 30, 7, 31, 33, 73, 74, 75, 76, 57, 58, 59, 60, 20, 21, 22, 23, 61, 62, 63, 64, 65, 66, 67, 68, 112, 113, 114, 115, 116, 117] (by decide +kernel) (by decide +kernel)
set_option maxRecDepth 20000 in
theorem gX1_digest_X0_tellFifth : GoodIn wsX1_digest (wsV RX1 99 RX0 yX0_tellFifth wsX0_tellFifth) := goodIn_app (goodIn_of _ (by decide +kernel)) ggX1_digest_X0_tellFifth
set_option maxRecDepth 20000 in
theorem ggX1_digest_X0_tellMajor : GoodIn wsX1_digest wsX0_tellMajor := goodIn_r _ [80, 24, 25, 26, 7, 27, 28, 29, 30, 31, 32, 33, 34, 35, 36, 37, 81, 82, 83, 84, 20, 21, 22, 23, 61, 62, 63, 64, 65, 66, 67, 68, 112, 113, 114, 115, 116, 117] (by decide +kernel) (by decide +kernel)
set_option maxRecDepth 20000 in
theorem gX1_digest_X0_tellMajor : GoodIn wsX1_digest (wsV RX1 102 RX0 yX0_tellMajor wsX0_tellMajor) := goodIn_app (goodIn_of _ (by decide +kernel)) ggX1_digest_X0_tellMajor
set_option maxRecDepth 20000 in
theorem ggX1_digest_X0_tellMinor : GoodIn wsX1_digest wsX0_tellMinor := goodIn_r _ [88, 89, 90, 91, 7, 92, 28, 29, 30, 31, 32, 33, 34, 35, 36, 37, 112, 113, 114, 115, 116, 117] (by decide +kernel) (by decide +kernel)
set_option maxRecDepth 20000 in
theorem gX1_digest_X0_tellMinor : GoodIn wsX1_digest (wsV RX1 105 RX0 yX0_tellMinor wsX0_tellMinor) := goodIn_app (goodIn_of _ (by decide +kernel)) ggX1_digest_X0_tellMinor
set_option maxRecDepth 20000 in
theorem ggX1_digest_X0_tellNote : GoodIn wsX1_digest wsX0_tellNote := goodIn_r _ [96, 33, 97, 34, 35, 36, 37, 65, 66, 67, 7, 68, 61, 62, 63, 64, 98, 99, 100, 101, 73, 74, 75, 76, 28, 29, 30, 31, 32, 112, 113, 114, 115, 116, 117] (by decide +kernel) (by decide +kernel)
set_option maxRecDepth 20000 in
theorem gX1_digest_X0_tellNote : GoodIn wsX1_digest (wsV RX1 108 RX0 yX0_tellNote wsX0_tellNote) := goodIn_app (goodIn_of _ (by decide +kernel)) ggX1_digest_X0_tellNote
set_option maxRecDepth 20000 in
theorem ggX1_digest_X0_tellKey : GoodIn wsX1_digest wsX0_tellKey := goodIn_r _ [105, 15, 34, 35, 36, 37, 16, 17, 18, 7, 19, 20, 21, 22, 23, 24, 25, 26, 27, 28, 29, 30, 31, 32, 33, 106, 107, 108, 109, 112, 113, 114, 115, 116, 117] (by decide +kernel) (by decide +kernel)
set_option maxRecDepth 20000 in
theorem gX1_digest_X0_tellKey : GoodIn wsX1_digest (wsV RX1 111 RX0 yX0_tellKey wsX0_tellKey) := goodIn_app (goodIn_of _ (by decide +kernel)) ggX1_digest_X0_tellKey
theorem dX1_digest_0 : decode cX1_digest 0 = .ok (.ldc2_w 140, 3) := by decide +kernel
theorem dX1_digest_3 : decode cX1_digest 3 = .ok (.lstore_n 1, 1) := by decide +kernel
theorem dX1_digest_4 : decode cX1_digest 4 = .ok (.iconst 0, 1) := by decide +kernel
theorem dX1_digest_5 : decode cX1_digest 5 = .ok (.istore_n 3, 1) := by decide +kernel
theorem dX1_digest_6 : decode cX1_digest 6 = .ok (.iload_n 3, 1) := by decide +kernel
theorem dX1_digest_7 : decode cX1_digest 7 = .ok (.bipush 7, 2) := by decide +kernel
theorem dX1_digest_9 : decode cX1_digest 9 = .ok (.if_icmp .ge 25, 3) := by decide +kernel
theorem dX1_digest_12 : decode cX1_digest 12 = .ok (.lload_n 1, 1) := by decide +kernel
theorem dX1_digest_13 : decode cX1_digest 13 = .ok (.ldc2_w 142, 3) := by decide +kernel
theorem dX1_digest_16 : decode cX1_digest 16 = .ok (.lmul, 1) := by decide +kernel
theorem dX1_digest_17 : decode cX1_digest 17 = .ok (.aload_n 0, 1) := by decide +kernel
theorem dX1_digest_18 : decode cX1_digest 18 = .ok (.getfield 10, 3) := by decide +kernel
theorem dX1_digest_21 : decode cX1_digest 21 = .ok (.iload_n 3, 1) := by decide +kernel
theorem dX1_digest_22 : decode cX1_digest 22 = .ok (.invokevirtual 114, 3) := by decide +kernel
theorem dX1_digest_25 : decode cX1_digest 25 = .ok (.i2l, 1) := by decide +kernel
theorem dX1_digest_26 : decode cX1_digest 26 = .ok (.ladd, 1) := by decide +kernel
theorem dX1_digest_27 : decode cX1_digest 27 = .ok (.lstore_n 1, 1) := by decide +kernel
theorem dX1_digest_28 : decode cX1_digest 28 = .ok (.iinc 3 1, 3) := by decide +kernel
theorem dX1_digest_31 : decode cX1_digest 31 = .ok (.goto (-25), 3) := by decide +kernel
theorem dX1_digest_34 : decode cX1_digest 34 = .ok (.iconst 0, 1) := by decide +kernel
theorem dX1_digest_35 : decode cX1_digest 35 = .ok (.istore_n 3, 1) := by decide +kernel
theorem dX1_digest_36 : decode cX1_digest 36 = .ok (.iload_n 3, 1) := by decide +kernel
theorem dX1_digest_37 : decode cX1_digest 37 = .ok (.bipush 12, 2) := by decide +kernel
theorem dX1_digest_39 : decode cX1_digest 39 = .ok (.if_icmp .ge 174, 3) := by decide +kernel
theorem dX1_digest_42 : decode cX1_digest 42 = .ok (.iconst 0, 1) := by decide +kernel
theorem dX1_digest_43 : decode cX1_digest 43 = .ok (.istore 4, 2) := by decide +kernel
theorem dX1_digest_45 : decode cX1_digest 45 = .ok (.iload 4, 2) := by decide +kernel
theorem dX1_digest_47 : decode cX1_digest 47 = .ok (.iconst 5, 1) := by decide +kernel
theorem dX1_digest_48 : decode cX1_digest 48 = .ok (.if_icmp .ge 27, 3) := by decide +kernel
theorem dX1_digest_51 : decode cX1_digest 51 = .ok (.lload_n 1, 1) := by decide +kernel
theorem dX1_digest_52 : decode cX1_digest 52 = .ok (.ldc2_w 142, 3) := by decide +kernel
theorem dX1_digest_55 : decode cX1_digest 55 = .ok (.lmul, 1) := by decide +kernel
theorem dX1_digest_56 : decode cX1_digest 56 = .ok (.aload_n 0, 1) := by decide +kernel
theorem dX1_digest_57 : decode cX1_digest 57 = .ok (.getfield 10, 3) := by decide +kernel
theorem dX1_digest_60 : decode cX1_digest 60 = .ok (.iload_n 3, 1) := by decide +kernel
theorem dX1_digest_61 : decode cX1_digest 61 = .ok (.iload 4, 2) := by decide +kernel
theorem dX1_digest_63 : decode cX1_digest 63 = .ok (.invokevirtual 99, 3) := by decide +kernel
theorem dX1_digest_66 : decode cX1_digest 66 = .ok (.i2l, 1) := by decide +kernel
theorem dX1_digest_67 : decode cX1_digest 67 = .ok (.ladd, 1) := by decide +kernel
theorem dX1_digest_68 : decode cX1_digest 68 = .ok (.lstore_n 1, 1) := by decide +kernel
theorem dX1_digest_69 : decode cX1_digest 69 = .ok (.iinc 4 1, 3) := by decide +kernel
theorem dX1_digest_72 : decode cX1_digest 72 = .ok (.goto (-27), 3) := by decide +kernel
theorem dX1_digest_75 : decode cX1_digest 75 = .ok (.iconst 0, 1) := by decide +kernel
theorem dX1_digest_76 : decode cX1_digest 76 = .ok (.istore 4, 2) := by decide +kernel
theorem dX1_digest_78 : decode cX1_digest 78 = .ok (.iload 4, 2) := by decide +kernel
theorem dX1_digest_80 : decode cX1_digest 80 = .ok (.iconst 3, 1) := by decide +kernel
theorem dX1_digest_81 : decode cX1_digest 81 = .ok (.if_icmp .ge 27, 3) := by decide +kernel
theorem dX1_digest_84 : decode cX1_digest 84 = .ok (.lload_n 1, 1) := by decide +kernel
theorem dX1_digest_85 : decode cX1_digest 85 = .ok (.ldc2_w 142, 3) := by decide +kernel
theorem dX1_digest_88 : decode cX1_digest 88 = .ok (.lmul, 1) := by decide +kernel
theorem dX1_digest_89 : decode cX1_digest 89 = .ok (.aload_n 0, 1) := by decide +kernel
theorem dX1_digest_90 : decode cX1_digest 90 = .ok (.getfield 10, 3) := by decide +kernel
theorem dX1_digest_93 : decode cX1_digest 93 = .ok (.iload_n 3, 1) := by decide +kernel
theorem dX1_digest_94 : decode cX1_digest 94 = .ok (.iload 4, 2) := by decide +kernel
theorem dX1_digest_96 : decode cX1_digest 96 = .ok (.invokevirtual 102, 3) := by decide +kernel
theorem dX1_digest_99 : decode cX1_digest 99 = .ok (.i2l, 1) := by decide +kernel
theorem dX1_digest_100 : decode cX1_digest 100 = .ok (.ladd, 1) := by decide +kernel
theorem dX1_digest_101 : decode cX1_digest 101 = .ok (.lstore_n 1, 1) := by decide +kernel
theorem dX1_digest_102 : decode cX1_digest 102 = .ok (.iinc 4 1, 3) := by decide +kernel
theorem dX1_digest_105 : decode cX1_digest 105 = .ok (.goto (-27), 3) := by decide +kernel
theorem dX1_digest_108 : decode cX1_digest 108 = .ok (.iconst 0, 1) := by decide +kernel
theorem dX1_digest_109 : decode cX1_digest 109 = .ok (.istore 4, 2) := by decide +kernel
theorem dX1_digest_111 : decode cX1_digest 111 = .ok (.iload 4, 2) := by decide +kernel
theorem dX1_digest_113 : decode cX1_digest 113 = .ok (.iconst 2, 1) := by decide +kernel
theorem dX1_digest_114 : decode cX1_digest 114 = .ok (.if_icmp .ge 27, 3) := by decide +kernel
theorem dX1_digest_117 : decode cX1_digest 117 = .ok (.lload_n 1, 1) := by decide +kernel
theorem dX1_digest_118 : decode cX1_digest 118 = .ok (.ldc2_w 142, 3) := by decide +kernel
theorem dX1_digest_121 : decode cX1_digest 121 = .ok (.lmul, 1) := by decide +kernel
theorem dX1_digest_122 : decode cX1_digest 122 = .ok (.aload_n 0, 1) := by decide +kernel
theorem dX1_digest_123 : decode cX1_digest 123 = .ok (.getfield 10, 3) := by decide +kernel
theorem dX1_digest_126 : decode cX1_digest 126 = .ok (.iload_n 3, 1) := by decide +kernel
theorem dX1_digest_127 : decode cX1_digest 127 = .ok (.iload 4, 2) := by decide +kernel
theorem dX1_digest_129 : decode cX1_digest 129 = .ok (.invokevirtual 105, 3) := by decide +kernel
theorem dX1_digest_132 : decode cX1_digest 132 = .ok (.i2l, 1) := by decide +kernel
theorem dX1_digest_133 : decode cX1_digest 133 = .ok (.ladd, 1) := by decide +kernel
theorem dX1_digest_134 : decode cX1_digest 134 = .ok (.lstore_n 1, 1) := by decide +kernel
theorem dX1_digest_135 : decode cX1_digest 135 = .ok (.iinc 4 1, 3) := by decide +kernel
theorem dX1_digest_138 : decode cX1_digest 138 = .ok (.goto (-27), 3) := by decide +kernel
theorem dX1_digest_141 : decode cX1_digest 141 = .ok (.iconst 0, 1) := by decide +kernel
theorem dX1_digest_142 : decode cX1_digest 142 = .ok (.istore 4, 2) := by decide +kernel
theorem dX1_digest_144 : decode cX1_digest 144 = .ok (.iload 4, 2) := by decide +kernel
theorem dX1_digest_146 : decode cX1_digest 146 = .ok (.iconst 5, 1) := by decide +kernel
theorem dX1_digest_147 : decode cX1_digest 147 = .ok (.if_icmp .ge 27, 3) := by decide +kernel
theorem dX1_digest_150 : decode cX1_digest 150 = .ok (.lload_n 1, 1) := by decide +kernel
theorem dX1_digest_151 : decode cX1_digest 151 = .ok (.ldc2_w 142, 3) := by decide +kernel
theorem dX1_digest_154 : decode cX1_digest 154 = .ok (.lmul, 1) := by decide +kernel
theorem dX1_digest_155 : decode cX1_digest 155 = .ok (.aload_n 0, 1) := by decide +kernel
theorem dX1_digest_156 : decode cX1_digest 156 = .ok (.getfield 10, 3) := by decide +kernel
theorem dX1_digest_159 : decode cX1_digest 159 = .ok (.iload_n 3, 1) := by decide +kernel
theorem dX1_digest_160 : decode cX1_digest 160 = .ok (.iload 4, 2) := by decide +kernel
theorem dX1_digest_162 : decode cX1_digest 162 = .ok (.invokevirtual 108, 3) := by decide +kernel
theorem dX1_digest_165 : decode cX1_digest 165 = .ok (.i2l, 1) := by decide +kernel
theorem dX1_digest_166 : decode cX1_digest 166 = .ok (.ladd, 1) := by decide +kernel
theorem dX1_digest_167 : decode cX1_digest 167 = .ok (.lstore_n 1, 1) := by decide +kernel
theorem dX1_digest_168 : decode cX1_digest 168 = .ok (.iinc 4 1, 3) := by decide +kernel
theorem dX1_digest_171 : decode cX1_digest 171 = .ok (.goto (-27), 3) := by decide +kernel
theorem dX1_digest_174 : decode cX1_digest 174 = .ok (.iconst 0, 1) := by decide +kernel
theorem dX1_digest_175 : decode cX1_digest 175 = .ok (.istore 4, 2) := by decide +kernel
theorem dX1_digest_177 : decode cX1_digest 177 = .ok (.iload 4, 2) := by decide +kernel
theorem dX1_digest_179 : decode cX1_digest 179 = .ok (.iconst 4, 1) := by decide +kernel
theorem dX1_digest_180 : decode cX1_digest 180 = .ok (.if_icmp .ge 27, 3) := by decide +kernel
theorem dX1_digest_183 : decode cX1_digest 183 = .ok (.lload_n 1, 1) := by decide +kernel
theorem dX1_digest_184 : decode cX1_digest 184 = .ok (.ldc2_w 142, 3) := by decide +kernel
theorem dX1_digest_187 : decode cX1_digest 187 = .ok (.lmul, 1) := by decide +kernel
theorem dX1_digest_188 : decode cX1_digest 188 = .ok (.aload_n 0, 1) := by decide +kernel
theorem dX1_digest_189 : decode cX1_digest 189 = .ok (.getfield 10, 3) := by decide +kernel
theorem dX1_digest_192 : decode cX1_digest 192 = .ok (.iload_n 3, 1) := by decide +kernel
theorem dX1_digest_193 : decode cX1_digest 193 = .ok (.iload 4, 2) := by decide +kernel
theorem dX1_digest_195 : decode cX1_digest 195 = .ok (.invokevirtual 111, 3) := by decide +kernel
theorem dX1_digest_198 : decode cX1_digest 198 = .ok (.i2l, 1) := by decide +kernel
theorem dX1_digest_199 : decode cX1_digest 199 = .ok (.ladd, 1) := by decide +kernel
theorem dX1_digest_200 : decode cX1_digest 200 = .ok (.lstore_n 1, 1) := by decide +kernel
theorem dX1_digest_201 : decode cX1_digest 201 = .ok (.iinc 4 1, 3) := by decide +kernel
theorem dX1_digest_204 : decode cX1_digest 204 = .ok (.goto (-27), 3) := by decide +kernel
theorem dX1_digest_207 : decode cX1_digest 207 = .ok (.iinc 3 1, 3) := by decide +kernel
theorem dX1_digest_210 : decode cX1_digest 210 = .ok (.goto (-174), 3) := by decide +kernel
theorem dX1_digest_213 : decode cX1_digest 213 = .ok (.lload_n 1, 1) := by decide +kernel
theorem dX1_digest_214 : decode cX1_digest 214 = .ok (.lreturn, 1) := by decide +kernel
theorem dX1_checkRing_0 : decode cX1_checkRing 0 = .ok (.iload_n 0, 1) := by decide +kernel
theorem dX1_checkRing_1 : decode cX1_checkRing 1 = .ok (.ifCond .lt 9, 3) := by decide +kernel
theorem dX1_checkRing_4 : decode cX1_checkRing 4 = .ok (.iload_n 0, 1) := by decide +kernel
theorem dX1_checkRing_5 : decode cX1_checkRing 5 = .ok (.bipush 12, 2) := by decide +kernel
theorem dX1_checkRing_7 : decode cX1_checkRing 7 = .ok (.if_icmp .lt 13, 3) := by decide +kernel
theorem dX1_checkRing_10 : decode cX1_checkRing 10 = .ok (.new 144, 3) := by decide +kernel
theorem dX1_checkRing_13 : decode cX1_checkRing 13 = .ok (.dup, 1) := by decide +kernel
theorem dX1_checkRing_14 : decode cX1_checkRing 14 = .ok (.ldc 146, 2) := by decide +kernel
theorem dX1_checkRing_16 : decode cX1_checkRing 16 = .ok (.invokespecial 148, 3) := by decide +kernel
theorem dX1_checkRing_19 : decode cX1_checkRing 19 = .ok (.athrow, 1) := by decide +kernel
theorem dX1_checkRing_20 : decode cX1_checkRing 20 = .ok (.return_, 1) := by decide +kernel
theorem dX1_checkWhat_0 : decode cX1_checkWhat 0 = .ok (.iload_n 0, 1) := by decide +kernel
theorem dX1_checkWhat_1 : decode cX1_checkWhat 1 = .ok (.iload_n 1, 1) := by decide +kernel
theorem dX1_checkWhat_2 : decode cX1_checkWhat 2 = .ok (.if_icmp .lt 8, 3) := by decide +kernel
theorem dX1_checkWhat_5 : decode cX1_checkWhat 5 = .ok (.iload_n 0, 1) := by decide +kernel
theorem dX1_checkWhat_6 : decode cX1_checkWhat 6 = .ok (.iload_n 2, 1) := by decide +kernel
theorem dX1_checkWhat_7 : decode cX1_checkWhat 7 = .ok (.if_icmp .lt 13, 3) := by decide +kernel
theorem dX1_checkWhat_10 : decode cX1_checkWhat 10 = .ok (.new 144, 3) := by decide +kernel
theorem dX1_checkWhat_13 : decode cX1_checkWhat 13 = .ok (.dup, 1) := by decide +kernel
theorem dX1_checkWhat_14 : decode cX1_checkWhat 14 = .ok (.ldc 149, 2) := by decide +kernel
theorem dX1_checkWhat_16 : decode cX1_checkWhat 16 = .ok (.invokespecial 148, 3) := by decide +kernel
theorem dX1_checkWhat_19 : decode cX1_checkWhat 19 = .ok (.athrow, 1) := by decide +kernel
theorem dX1_checkWhat_20 : decode cX1_checkWhat 20 = .ok (.return_, 1) := by decide +kernel
theorem dX1_checkArgument_0 : decode cX1_checkArgument 0 = .ok (.iload_n 0, 1) := by decide +kernel
theorem dX1_checkArgument_1 : decode cX1_checkArgument 1 = .ok (.iload_n 1, 1) := by decide +kernel
theorem dX1_checkArgument_2 : decode cX1_checkArgument 2 = .ok (.if_icmp .lt 8, 3) := by decide +kernel
theorem dX1_checkArgument_5 : decode cX1_checkArgument 5 = .ok (.iload_n 0, 1) := by decide +kernel
theorem dX1_checkArgument_6 : decode cX1_checkArgument 6 = .ok (.iload_n 2, 1) := by decide +kernel
theorem dX1_checkArgument_7 : decode cX1_checkArgument 7 = .ok (.if_icmp .le 13, 3) := by decide +kernel
theorem dX1_checkArgument_10 : decode cX1_checkArgument 10 = .ok (.new 151, 3) := by decide +kernel
theorem dX1_checkArgument_13 : decode cX1_checkArgument 13 = .ok (.dup, 1) := by decide +kernel
theorem dX1_checkArgument_14 : decode cX1_checkArgument 14 = .ok (.ldc 153, 2) := by decide +kernel
theorem dX1_checkArgument_16 : decode cX1_checkArgument 16 = .ok (.invokespecial 155, 3) := by decide +kernel
theorem dX1_checkArgument_19 : decode cX1_checkArgument 19 = .ok (.athrow, 1) := by decide +kernel
theorem dX1_checkArgument_20 : decode cX1_checkArgument 20 = .ok (.return_, 1) := by decide +kernel
theorem dX1_checkNotWolf_0 : decode cX1_checkNotWolf 0 = .ok (.iload_n 1, 1) := by decide +kernel
theorem dX1_checkNotWolf_1 : decode cX1_checkNotWolf 1 = .ok (.aload_n 0, 1) := by decide +kernel
theorem dX1_checkNotWolf_2 : decode cX1_checkNotWolf 2 = .ok (.getfield 10, 3) := by decide +kernel
theorem dX1_checkNotWolf_5 : decode cX1_checkNotWolf 5 = .ok (.getfield 38, 3) := by decide +kernel
theorem dX1_checkNotWolf_8 : decode cX1_checkNotWolf 8 = .ok (.if_icmp .ne 13, 3) := by decide +kernel
theorem dX1_checkNotWolf_11 : decode cX1_checkNotWolf 11 = .ok (.new 62, 3) := by decide +kernel
theorem dX1_checkNotWolf_14 : decode cX1_checkNotWolf 14 = .ok (.dup, 1) := by decide +kernel
theorem dX1_checkNotWolf_15 : decode cX1_checkNotWolf 15 = .ok (.ldc 156, 2) := by decide +kernel
theorem dX1_checkNotWolf_17 : decode cX1_checkNotWolf 17 = .ok (.invokespecial 66, 3) := by decide +kernel
theorem dX1_checkNotWolf_20 : decode cX1_checkNotWolf 20 = .ok (.athrow, 1) := by decide +kernel
theorem dX1_checkNotWolf_21 : decode cX1_checkNotWolf 21 = .ok (.return_, 1) := by decide +kernel
theorem dX1_startTrial_0 : decode cX1_startTrial 0 = .ok (.iconst 0, 1) := by decide +kernel
theorem dX1_startTrial_1 : decode cX1_startTrial 1 = .ok (.istore_n 1, 1) := by decide +kernel
theorem dX1_startTrial_2 : decode cX1_startTrial 2 = .ok (.iload_n 1, 1) := by decide +kernel
theorem dX1_startTrial_3 : decode cX1_startTrial 3 = .ok (.bipush 12, 2) := by decide +kernel
theorem dX1_startTrial_5 : decode cX1_startTrial 5 = .ok (.if_icmp .ge 81, 3) := by decide +kernel
theorem dX1_startTrial_8 : decode cX1_startTrial 8 = .ok (.aload_n 0, 1) := by decide +kernel
theorem dX1_startTrial_9 : decode cX1_startTrial 9 = .ok (.getfield 16, 3) := by decide +kernel
theorem dX1_startTrial_12 : decode cX1_startTrial 12 = .ok (.getfield 30, 3) := by decide +kernel
theorem dX1_startTrial_15 : decode cX1_startTrial 15 = .ok (.iload_n 1, 1) := by decide +kernel
theorem dX1_startTrial_16 : decode cX1_startTrial 16 = .ok (.aload_n 0, 1) := by decide +kernel
theorem dX1_startTrial_17 : decode cX1_startTrial 17 = .ok (.getfield 10, 3) := by decide +kernel
theorem dX1_startTrial_20 : decode cX1_startTrial 20 = .ok (.getfield 30, 3) := by decide +kernel
theorem dX1_startTrial_23 : decode cX1_startTrial 23 = .ok (.iload_n 1, 1) := by decide +kernel
theorem dX1_startTrial_24 : decode cX1_startTrial 24 = .ok (.iaload, 1) := by decide +kernel
theorem dX1_startTrial_25 : decode cX1_startTrial 25 = .ok (.iastore, 1) := by decide +kernel
theorem dX1_startTrial_26 : decode cX1_startTrial 26 = .ok (.aload_n 0, 1) := by decide +kernel
theorem dX1_startTrial_27 : decode cX1_startTrial 27 = .ok (.getfield 16, 3) := by decide +kernel
theorem dX1_startTrial_30 : decode cX1_startTrial 30 = .ok (.getfield 81, 3) := by decide +kernel
theorem dX1_startTrial_33 : decode cX1_startTrial 33 = .ok (.iload_n 1, 1) := by decide +kernel
theorem dX1_startTrial_34 : decode cX1_startTrial 34 = .ok (.aload_n 0, 1) := by decide +kernel
theorem dX1_startTrial_35 : decode cX1_startTrial 35 = .ok (.getfield 10, 3) := by decide +kernel
theorem dX1_startTrial_38 : decode cX1_startTrial 38 = .ok (.getfield 81, 3) := by decide +kernel
theorem dX1_startTrial_41 : decode cX1_startTrial 41 = .ok (.iload_n 1, 1) := by decide +kernel
theorem dX1_startTrial_42 : decode cX1_startTrial 42 = .ok (.iaload, 1) := by decide +kernel
theorem dX1_startTrial_43 : decode cX1_startTrial 43 = .ok (.iastore, 1) := by decide +kernel
theorem dX1_startTrial_44 : decode cX1_startTrial 44 = .ok (.aload_n 0, 1) := by decide +kernel
theorem dX1_startTrial_45 : decode cX1_startTrial 45 = .ok (.getfield 16, 3) := by decide +kernel
theorem dX1_startTrial_48 : decode cX1_startTrial 48 = .ok (.getfield 55, 3) := by decide +kernel
theorem dX1_startTrial_51 : decode cX1_startTrial 51 = .ok (.iload_n 1, 1) := by decide +kernel
theorem dX1_startTrial_52 : decode cX1_startTrial 52 = .ok (.aload_n 0, 1) := by decide +kernel
theorem dX1_startTrial_53 : decode cX1_startTrial 53 = .ok (.getfield 10, 3) := by decide +kernel
theorem dX1_startTrial_56 : decode cX1_startTrial 56 = .ok (.getfield 55, 3) := by decide +kernel
theorem dX1_startTrial_59 : decode cX1_startTrial 59 = .ok (.iload_n 1, 1) := by decide +kernel
theorem dX1_startTrial_60 : decode cX1_startTrial 60 = .ok (.iaload, 1) := by decide +kernel
theorem dX1_startTrial_61 : decode cX1_startTrial 61 = .ok (.iastore, 1) := by decide +kernel
theorem dX1_startTrial_62 : decode cX1_startTrial 62 = .ok (.aload_n 0, 1) := by decide +kernel
theorem dX1_startTrial_63 : decode cX1_startTrial 63 = .ok (.getfield 16, 3) := by decide +kernel
theorem dX1_startTrial_66 : decode cX1_startTrial 66 = .ok (.getfield 52, 3) := by decide +kernel
theorem dX1_startTrial_69 : decode cX1_startTrial 69 = .ok (.iload_n 1, 1) := by decide +kernel
theorem dX1_startTrial_70 : decode cX1_startTrial 70 = .ok (.aload_n 0, 1) := by decide +kernel
theorem dX1_startTrial_71 : decode cX1_startTrial 71 = .ok (.getfield 10, 3) := by decide +kernel
theorem dX1_startTrial_74 : decode cX1_startTrial 74 = .ok (.getfield 52, 3) := by decide +kernel
theorem dX1_startTrial_77 : decode cX1_startTrial 77 = .ok (.iload_n 1, 1) := by decide +kernel
theorem dX1_startTrial_78 : decode cX1_startTrial 78 = .ok (.iaload, 1) := by decide +kernel
theorem dX1_startTrial_79 : decode cX1_startTrial 79 = .ok (.iastore, 1) := by decide +kernel
theorem dX1_startTrial_80 : decode cX1_startTrial 80 = .ok (.iinc 1 1, 3) := by decide +kernel
theorem dX1_startTrial_83 : decode cX1_startTrial 83 = .ok (.goto (-81), 3) := by decide +kernel
theorem dX1_startTrial_86 : decode cX1_startTrial 86 = .ok (.aload_n 0, 1) := by decide +kernel
theorem dX1_startTrial_87 : decode cX1_startTrial 87 = .ok (.getfield 16, 3) := by decide +kernel
theorem dX1_startTrial_90 : decode cX1_startTrial 90 = .ok (.aload_n 0, 1) := by decide +kernel
theorem dX1_startTrial_91 : decode cX1_startTrial 91 = .ok (.getfield 10, 3) := by decide +kernel
theorem dX1_startTrial_94 : decode cX1_startTrial 94 = .ok (.getfield 38, 3) := by decide +kernel
theorem dX1_startTrial_97 : decode cX1_startTrial 97 = .ok (.putfield 38, 3) := by decide +kernel
theorem dX1_startTrial_100 : decode cX1_startTrial 100 = .ok (.aload_n 0, 1) := by decide +kernel
theorem dX1_startTrial_101 : decode cX1_startTrial 101 = .ok (.getfield 16, 3) := by decide +kernel
theorem dX1_startTrial_104 : decode cX1_startTrial 104 = .ok (.aload_n 0, 1) := by decide +kernel
theorem dX1_startTrial_105 : decode cX1_startTrial 105 = .ok (.getfield 10, 3) := by decide +kernel
theorem dX1_startTrial_108 : decode cX1_startTrial 108 = .ok (.getfield 158, 3) := by decide +kernel
theorem dX1_startTrial_111 : decode cX1_startTrial 111 = .ok (.putfield 158, 3) := by decide +kernel
theorem dX1_startTrial_114 : decode cX1_startTrial 114 = .ok (.return_, 1) := by decide +kernel
set_option maxRecDepth 20000 in
theorem ggX1_costWithWolf_X1_startTrial : GoodIn wsX1_costWithWolf wsX1_startTrial := goodIn_r _ [6, 1, 7, 8, 9, 10, 11, 12, 13, 47, 48, 49, 50, 51, 52, 53, 54] (by decide +kernel) (by decide +kernel)
set_option maxRecDepth 20000 in
theorem gX1_costWithWolf_X1_startTrial : GoodIn wsX1_costWithWolf (wsV RX1 117 RX1 yX1_startTrial wsX1_startTrial) := goodIn_app (goodIn_of _ (by decide +kernel)) ggX1_costWithWolf_X1_startTrial
set_option maxRecDepth 20000 in
theorem ggX1_costWithWolf_X0_moveWolf : GoodIn wsX1_costWithWolf wsX0_moveWolf := goodIn_r _ [18, 19, 20, 21, 22, 23, 24, 49, 50, 51, 52, 53, 54] (by decide +kernel) (by decide +kernel)
set_option maxRecDepth 20000 in
theorem gX1_costWithWolf_X0_moveWolf : GoodIn wsX1_costWithWolf (wsV RX1 42 RX0 yX0_moveWolf wsX0_moveWolf) := goodIn_app (goodIn_of _ (by decide +kernel)) ggX1_costWithWolf_X0_moveWolf
set_option maxRecDepth 20000 in
theorem ggX1_costWithWolf_X0_cost : GoodIn wsX1_costWithWolf wsX0_cost := goodIn_r _ [28, 29, 30, 31, 32, 17, 33, 34, 35, 36, 37, 38, 39, 40, 41, 42, 43, 44, 45, 20, 46, 21, 22, 23, 24, 49, 50, 51, 52, 53, 54] (by decide +kernel) (by decide +kernel)
set_option maxRecDepth 20000 in
theorem gX1_costWithWolf_X0_cost : GoodIn wsX1_costWithWolf (wsV RX1 129 RX0 yX0_cost wsX0_cost) := goodIn_app (goodIn_of _ (by decide +kernel)) ggX1_costWithWolf_X0_cost
theorem dX1_costWithWolf_0 : decode cX1_costWithWolf 0 = .ok (.aload_n 0, 1) := by decide +kernel
theorem dX1_costWithWolf_1 : decode cX1_costWithWolf 1 = .ok (.invokevirtual 117, 3) := by decide +kernel
theorem dX1_costWithWolf_4 : decode cX1_costWithWolf 4 = .ok (.aload_n 0, 1) := by decide +kernel
theorem dX1_costWithWolf_5 : decode cX1_costWithWolf 5 = .ok (.getfield 16, 3) := by decide +kernel
theorem dX1_costWithWolf_8 : decode cX1_costWithWolf 8 = .ok (.iload_n 1, 1) := by decide +kernel
theorem dX1_costWithWolf_9 : decode cX1_costWithWolf 9 = .ok (.invokevirtual 42, 3) := by decide +kernel
theorem dX1_costWithWolf_12 : decode cX1_costWithWolf 12 = .ok (.aload_n 0, 1) := by decide +kernel
theorem dX1_costWithWolf_13 : decode cX1_costWithWolf 13 = .ok (.getfield 16, 3) := by decide +kernel
theorem dX1_costWithWolf_16 : decode cX1_costWithWolf 16 = .ok (.invokevirtual 129, 3) := by decide +kernel
theorem dX1_costWithWolf_19 : decode cX1_costWithWolf 19 = .ok (.ireturn, 1) := by decide +kernel
set_option maxRecDepth 20000 in
theorem ggX1_costWithNarrow_X1_startTrial : GoodIn wsX1_costWithNarrow wsX1_startTrial := goodIn_r _ [6, 1, 7, 8, 9, 10, 11, 12, 13, 51, 52, 53, 54, 55, 56, 57, 58] (by decide +kernel) (by decide +kernel)
set_option maxRecDepth 20000 in
theorem gX1_costWithNarrow_X1_startTrial : GoodIn wsX1_costWithNarrow (wsV RX1 117 RX1 yX1_startTrial wsX1_startTrial) := goodIn_app (goodIn_of _ (by decide +kernel)) ggX1_costWithNarrow_X1_startTrial
set_option maxRecDepth 20000 in
theorem ggX1_costWithNarrow_X0_plan : GoodIn wsX1_costWithNarrow wsX0_plan := goodIn_r _ [18, 19, 20, 21, 22, 23, 24, 25, 26, 17, 27, 28, 53, 54, 55, 56, 57, 58] (by decide +kernel) (by decide +kernel)
set_option maxRecDepth 20000 in
theorem gX1_costWithNarrow_X0_plan : GoodIn wsX1_costWithNarrow (wsV RX1 34 RX0 yX0_plan wsX0_plan) := goodIn_app (goodIn_of _ (by decide +kernel)) ggX1_costWithNarrow_X0_plan
set_option maxRecDepth 20000 in
theorem ggX1_costWithNarrow_X0_cost : GoodIn wsX1_costWithNarrow wsX0_cost := goodIn_r _ [32, 33, 34, 35, 36, 17, 37, 38, 39, 40, 41, 42, 43, 44, 45, 46, 47, 48, 49, 19, 50, 20, 21, 22, 23, 53, 54, 55, 56, 57, 58] (by decide +kernel) (by decide +kernel)
set_option maxRecDepth 20000 in
theorem gX1_costWithNarrow_X0_cost : GoodIn wsX1_costWithNarrow (wsV RX1 129 RX0 yX0_cost wsX0_cost) := goodIn_app (goodIn_of _ (by decide +kernel)) ggX1_costWithNarrow_X0_cost
theorem dX1_costWithNarrow_0 : decode cX1_costWithNarrow 0 = .ok (.aload_n 0, 1) := by decide +kernel
theorem dX1_costWithNarrow_1 : decode cX1_costWithNarrow 1 = .ok (.invokevirtual 117, 3) := by decide +kernel
theorem dX1_costWithNarrow_4 : decode cX1_costWithNarrow 4 = .ok (.aload_n 0, 1) := by decide +kernel
theorem dX1_costWithNarrow_5 : decode cX1_costWithNarrow 5 = .ok (.getfield 16, 3) := by decide +kernel
theorem dX1_costWithNarrow_8 : decode cX1_costWithNarrow 8 = .ok (.iload_n 1, 1) := by decide +kernel
theorem dX1_costWithNarrow_9 : decode cX1_costWithNarrow 9 = .ok (.iload_n 2, 1) := by decide +kernel
theorem dX1_costWithNarrow_10 : decode cX1_costWithNarrow 10 = .ok (.invokevirtual 34, 3) := by decide +kernel
theorem dX1_costWithNarrow_13 : decode cX1_costWithNarrow 13 = .ok (.aload_n 0, 1) := by decide +kernel
theorem dX1_costWithNarrow_14 : decode cX1_costWithNarrow 14 = .ok (.getfield 16, 3) := by decide +kernel
theorem dX1_costWithNarrow_17 : decode cX1_costWithNarrow 17 = .ok (.invokevirtual 129, 3) := by decide +kernel
theorem dX1_costWithNarrow_20 : decode cX1_costWithNarrow 20 = .ok (.ireturn, 1) := by decide +kernel
set_option maxRecDepth 20000 in
theorem ggX1_costWithTuned_X1_startTrial : GoodIn wsX1_costWithTuned wsX1_startTrial := goodIn_r _ [6, 1, 7, 8, 9, 10, 11, 12, 13, 46, 47, 48, 49, 50, 51, 52, 53] (by decide +kernel) (by decide +kernel)
set_option maxRecDepth 20000 in
theorem gX1_costWithTuned_X1_startTrial : GoodIn wsX1_costWithTuned (wsV RX1 117 RX1 yX1_startTrial wsX1_startTrial) := goodIn_app (goodIn_of _ (by decide +kernel)) ggX1_costWithTuned_X1_startTrial
set_option maxRecDepth 20000 in
theorem ggX1_costWithTuned_X0_tuneOne : GoodIn wsX1_costWithTuned wsX0_tuneOne := goodIn_r _ [18, 19, 20, 21, 22, 23, 48, 49, 50, 51, 52, 53] (by decide +kernel) (by decide +kernel)
set_option maxRecDepth 20000 in
theorem gX1_costWithTuned_X0_tuneOne : GoodIn wsX1_costWithTuned (wsV RX1 69 RX0 yX0_tuneOne wsX0_tuneOne) := goodIn_app (goodIn_of _ (by decide +kernel)) ggX1_costWithTuned_X0_tuneOne
set_option maxRecDepth 20000 in
theorem ggX1_costWithTuned_X0_cost : GoodIn wsX1_costWithTuned wsX0_cost := goodIn_r _ [27, 28, 29, 30, 31, 17, 32, 33, 34, 35, 36, 37, 38, 39, 40, 41, 42, 43, 44, 45, 19, 20, 21, 22, 23, 48, 49, 50, 51, 52, 53] (by decide +kernel) (by decide +kernel)
set_option maxRecDepth 20000 in
theorem gX1_costWithTuned_X0_cost : GoodIn wsX1_costWithTuned (wsV RX1 129 RX0 yX0_cost wsX0_cost) := goodIn_app (goodIn_of _ (by decide +kernel)) ggX1_costWithTuned_X0_cost
theorem dX1_costWithTuned_0 : decode cX1_costWithTuned 0 = .ok (.aload_n 0, 1) := by decide +kernel
theorem dX1_costWithTuned_1 : decode cX1_costWithTuned 1 = .ok (.invokevirtual 117, 3) := by decide +kernel
theorem dX1_costWithTuned_4 : decode cX1_costWithTuned 4 = .ok (.aload_n 0, 1) := by decide +kernel
theorem dX1_costWithTuned_5 : decode cX1_costWithTuned 5 = .ok (.getfield 16, 3) := by decide +kernel
theorem dX1_costWithTuned_8 : decode cX1_costWithTuned 8 = .ok (.iload_n 1, 1) := by decide +kernel
theorem dX1_costWithTuned_9 : decode cX1_costWithTuned 9 = .ok (.invokevirtual 69, 3) := by decide +kernel
theorem dX1_costWithTuned_12 : decode cX1_costWithTuned 12 = .ok (.pop, 1) := by decide +kernel
theorem dX1_costWithTuned_13 : decode cX1_costWithTuned 13 = .ok (.aload_n 0, 1) := by decide +kernel
theorem dX1_costWithTuned_14 : decode cX1_costWithTuned 14 = .ok (.getfield 16, 3) := by decide +kernel
theorem dX1_costWithTuned_17 : decode cX1_costWithTuned 17 = .ok (.invokevirtual 129, 3) := by decide +kernel
theorem dX1_costWithTuned_20 : decode cX1_costWithTuned 20 = .ok (.ireturn, 1) := by decide +kernel
end
section
theorem dX2_init_0 : decode cX2_init 0 = .ok (.aload_n 0, 1) := by decide +kernel
theorem dX2_init_1 : decode cX2_init 1 = .ok (.invokespecial 1, 3) := by decide +kernel
theorem dX2_init_4 : decode cX2_init 4 = .ok (.aload_n 0, 1) := by decide +kernel
theorem dX2_init_5 : decode cX2_init 5 = .ok (.bipush 11, 2) := by decide +kernel
theorem dX2_init_7 : decode cX2_init 7 = .ok (.putfield 7, 3) := by decide +kernel
theorem dX2_init_10 : decode cX2_init 10 = .ok (.aload_n 0, 1) := by decide +kernel
theorem dX2_init_11 : decode cX2_init 11 = .ok (.bipush 12, 2) := by decide +kernel
theorem dX2_init_13 : decode cX2_init 13 = .ok (.newarray .int, 2) := by decide +kernel
theorem dX2_init_15 : decode cX2_init 15 = .ok (.putfield 13, 3) := by decide +kernel
theorem dX2_init_18 : decode cX2_init 18 = .ok (.aload_n 0, 1) := by decide +kernel
theorem dX2_init_19 : decode cX2_init 19 = .ok (.bipush 12, 2) := by decide +kernel
theorem dX2_init_21 : decode cX2_init 21 = .ok (.newarray .int, 2) := by decide +kernel
theorem dX2_init_23 : decode cX2_init 23 = .ok (.putfield 17, 3) := by decide +kernel
theorem dX2_init_26 : decode cX2_init 26 = .ok (.aload_n 0, 1) := by decide +kernel
theorem dX2_init_27 : decode cX2_init 27 = .ok (.bipush 12, 2) := by decide +kernel
theorem dX2_init_29 : decode cX2_init 29 = .ok (.newarray .int, 2) := by decide +kernel
theorem dX2_init_31 : decode cX2_init 31 = .ok (.dup, 1) := by decide +kernel
theorem dX2_init_32 : decode cX2_init 32 = .ok (.iconst 0, 1) := by decide +kernel
theorem dX2_init_33 : decode cX2_init 33 = .ok (.iconst 1, 1) := by decide +kernel
theorem dX2_init_34 : decode cX2_init 34 = .ok (.iastore, 1) := by decide +kernel
theorem dX2_init_35 : decode cX2_init 35 = .ok (.dup, 1) := by decide +kernel
theorem dX2_init_36 : decode cX2_init 36 = .ok (.iconst 1, 1) := by decide +kernel
theorem dX2_init_37 : decode cX2_init 37 = .ok (.iconst 1, 1) := by decide +kernel
theorem dX2_init_38 : decode cX2_init 38 = .ok (.iastore, 1) := by decide +kernel
theorem dX2_init_39 : decode cX2_init 39 = .ok (.dup, 1) := by decide +kernel
theorem dX2_init_40 : decode cX2_init 40 = .ok (.iconst 2, 1) := by decide +kernel
theorem dX2_init_41 : decode cX2_init 41 = .ok (.iconst 1, 1) := by decide +kernel
theorem dX2_init_42 : decode cX2_init 42 = .ok (.iastore, 1) := by decide +kernel
theorem dX2_init_43 : decode cX2_init 43 = .ok (.dup, 1) := by decide +kernel
theorem dX2_init_44 : decode cX2_init 44 = .ok (.iconst 3, 1) := by decide +kernel
theorem dX2_init_45 : decode cX2_init 45 = .ok (.iconst 1, 1) := by decide +kernel
theorem dX2_init_46 : decode cX2_init 46 = .ok (.iastore, 1) := by decide +kernel
theorem dX2_init_47 : decode cX2_init 47 = .ok (.dup, 1) := by decide +kernel
theorem dX2_init_48 : decode cX2_init 48 = .ok (.iconst 4, 1) := by decide +kernel
theorem dX2_init_49 : decode cX2_init 49 = .ok (.iconst 1, 1) := by decide +kernel
theorem dX2_init_50 : decode cX2_init 50 = .ok (.iastore, 1) := by decide +kernel
theorem dX2_init_51 : decode cX2_init 51 = .ok (.dup, 1) := by decide +kernel
theorem dX2_init_52 : decode cX2_init 52 = .ok (.iconst 5, 1) := by decide +kernel
theorem dX2_init_53 : decode cX2_init 53 = .ok (.iconst 1, 1) := by decide +kernel
theorem dX2_init_54 : decode cX2_init 54 = .ok (.iastore, 1) := by decide +kernel
theorem dX2_init_55 : decode cX2_init 55 = .ok (.dup, 1) := by decide +kernel
theorem dX2_init_56 : decode cX2_init 56 = .ok (.bipush 6, 2) := by decide +kernel
theorem dX2_init_58 : decode cX2_init 58 = .ok (.iconst 1, 1) := by decide +kernel
theorem dX2_init_59 : decode cX2_init 59 = .ok (.iastore, 1) := by decide +kernel
theorem dX2_init_60 : decode cX2_init 60 = .ok (.dup, 1) := by decide +kernel
theorem dX2_init_61 : decode cX2_init 61 = .ok (.bipush 7, 2) := by decide +kernel
theorem dX2_init_63 : decode cX2_init 63 = .ok (.iconst 1, 1) := by decide +kernel
theorem dX2_init_64 : decode cX2_init 64 = .ok (.iastore, 1) := by decide +kernel
theorem dX2_init_65 : decode cX2_init 65 = .ok (.dup, 1) := by decide +kernel
theorem dX2_init_66 : decode cX2_init 66 = .ok (.bipush 8, 2) := by decide +kernel
theorem dX2_init_68 : decode cX2_init 68 = .ok (.iconst 1, 1) := by decide +kernel
theorem dX2_init_69 : decode cX2_init 69 = .ok (.iastore, 1) := by decide +kernel
theorem dX2_init_70 : decode cX2_init 70 = .ok (.dup, 1) := by decide +kernel
theorem dX2_init_71 : decode cX2_init 71 = .ok (.bipush 9, 2) := by decide +kernel
theorem dX2_init_73 : decode cX2_init 73 = .ok (.iconst 1, 1) := by decide +kernel
theorem dX2_init_74 : decode cX2_init 74 = .ok (.iastore, 1) := by decide +kernel
theorem dX2_init_75 : decode cX2_init 75 = .ok (.dup, 1) := by decide +kernel
theorem dX2_init_76 : decode cX2_init 76 = .ok (.bipush 10, 2) := by decide +kernel
theorem dX2_init_78 : decode cX2_init 78 = .ok (.iconst 1, 1) := by decide +kernel
theorem dX2_init_79 : decode cX2_init 79 = .ok (.iastore, 1) := by decide +kernel
theorem dX2_init_80 : decode cX2_init 80 = .ok (.dup, 1) := by decide +kernel
theorem dX2_init_81 : decode cX2_init 81 = .ok (.bipush 11, 2) := by decide +kernel
theorem dX2_init_83 : decode cX2_init 83 = .ok (.iconst 1, 1) := by decide +kernel
theorem dX2_init_84 : decode cX2_init 84 = .ok (.iastore, 1) := by decide +kernel
theorem dX2_init_85 : decode cX2_init 85 = .ok (.putfield 20, 3) := by decide +kernel
theorem dX2_init_88 : decode cX2_init 88 = .ok (.aload_n 0, 1) := by decide +kernel
theorem dX2_init_89 : decode cX2_init 89 = .ok (.bipush 12, 2) := by decide +kernel
theorem dX2_init_91 : decode cX2_init 91 = .ok (.newarray .int, 2) := by decide +kernel
theorem dX2_init_93 : decode cX2_init 93 = .ok (.putfield 23, 3) := by decide +kernel
theorem dX2_init_96 : decode cX2_init 96 = .ok (.return_, 1) := by decide +kernel
theorem dX2_thrown_0 : decode cX2_thrown 0 = .ok (.aload_n 0, 1) := by decide +kernel
theorem dX2_thrown_1 : decode cX2_thrown 1 = .ok (.getfield 26, 3) := by decide +kernel
theorem dX2_thrown_4 : decode cX2_thrown 4 = .ok (.ireturn, 1) := by decide +kernel
theorem dX2_no_0 : decode cX2_no 0 = .ok (.aload_n 0, 1) := by decide +kernel
theorem dX2_no_1 : decode cX2_no 1 = .ok (.iload_n 1, 1) := by decide +kernel
theorem dX2_no_2 : decode cX2_no 2 = .ok (.putfield 26, 3) := by decide +kernel
theorem dX2_no_5 : decode cX2_no 5 = .ok (.iconst 0, 1) := by decide +kernel
theorem dX2_no_6 : decode cX2_no 6 = .ok (.ireturn, 1) := by decide +kernel
theorem dX2_isIn_0 : decode cX2_isIn 0 = .ok (.iload_n 0, 1) := by decide +kernel
theorem dX2_isIn_1 : decode cX2_isIn 1 = .ok (.iload_n 1, 1) := by decide +kernel
theorem dX2_isIn_2 : decode cX2_isIn 2 = .ok (.if_icmp .lt 12, 3) := by decide +kernel
theorem dX2_isIn_5 : decode cX2_isIn 5 = .ok (.iload_n 0, 1) := by decide +kernel
theorem dX2_isIn_6 : decode cX2_isIn 6 = .ok (.iload_n 2, 1) := by decide +kernel
theorem dX2_isIn_7 : decode cX2_isIn 7 = .ok (.if_icmp .gt 7, 3) := by decide +kernel
theorem dX2_isIn_10 : decode cX2_isIn 10 = .ok (.iconst 1, 1) := by decide +kernel
theorem dX2_isIn_11 : decode cX2_isIn 11 = .ok (.goto 4, 3) := by decide +kernel
theorem dX2_isIn_14 : decode cX2_isIn 14 = .ok (.iconst 0, 1) := by decide +kernel
theorem dX2_isIn_15 : decode cX2_isIn 15 = .ok (.ireturn, 1) := by decide +kernel
set_option maxRecDepth 20000 in
theorem ggX2_isOne_X2_isIn : GoodIn wsX2_isOne wsX2_isIn := goodIn_r _ [4] (by decide +kernel) (by decide +kernel)
set_option maxRecDepth 20000 in
theorem gX2_isOne_X2_isIn : GoodIn wsX2_isOne (va_wsS RX2 29 yX2_isIn wsX2_isIn) := goodIn_app (goodIn_of _ (by decide +kernel)) ggX2_isOne_X2_isIn
theorem dX2_isOne_0 : decode cX2_isOne 0 = .ok (.iload_n 0, 1) := by decide +kernel
theorem dX2_isOne_1 : decode cX2_isOne 1 = .ok (.iconst 0, 1) := by decide +kernel
theorem dX2_isOne_2 : decode cX2_isOne 2 = .ok (.bipush 11, 2) := by decide +kernel
theorem dX2_isOne_4 : decode cX2_isOne 4 = .ok (.invokestatic 29, 3) := by decide +kernel
theorem dX2_isOne_7 : decode cX2_isOne 7 = .ok (.ireturn, 1) := by decide +kernel
theorem dX2_held_0 : decode cX2_held 0 = .ok (.bipush (-50), 2) := by decide +kernel
theorem dX2_held_2 : decode cX2_held 2 = .ok (.bipush 50, 2) := by decide +kernel
theorem dX2_held_4 : decode cX2_held 4 = .ok (.iload_n 0, 1) := by decide +kernel
theorem dX2_held_5 : decode cX2_held 5 = .ok (.invokestatic 33, 3) := by decide +kernel
theorem dX2_held_8 : decode cX2_held 8 = .ok (.invokestatic 39, 3) := by decide +kernel
theorem dX2_held_11 : decode cX2_held 11 = .ok (.ireturn, 1) := by decide +kernel
theorem dX2_planOf_0 : decode cX2_planOf 0 = .ok (.iload_n 1, 1) := by decide +kernel
theorem dX2_planOf_1 : decode cX2_planOf 1 = .ok (.bipush 12, 2) := by decide +kernel
theorem dX2_planOf_3 : decode cX2_planOf 3 = .ok (.irem, 1) := by decide +kernel
theorem dX2_planOf_4 : decode cX2_planOf 4 = .ok (.istore_n 2, 1) := by decide +kernel
theorem dX2_planOf_5 : decode cX2_planOf 5 = .ok (.iload_n 2, 1) := by decide +kernel
theorem dX2_planOf_6 : decode cX2_planOf 6 = .ok (.aload_n 0, 1) := by decide +kernel
theorem dX2_planOf_7 : decode cX2_planOf 7 = .ok (.getfield 7, 3) := by decide +kernel
theorem dX2_planOf_10 : decode cX2_planOf 10 = .ok (.if_icmp .eq 10, 3) := by decide +kernel
theorem dX2_planOf_13 : decode cX2_planOf 13 = .ok (.aload_n 0, 1) := by decide +kernel
theorem dX2_planOf_14 : decode cX2_planOf 14 = .ok (.getfield 13, 3) := by decide +kernel
theorem dX2_planOf_17 : decode cX2_planOf 17 = .ok (.iload_n 2, 1) := by decide +kernel
theorem dX2_planOf_18 : decode cX2_planOf 18 = .ok (.iaload, 1) := by decide +kernel
theorem dX2_planOf_19 : decode cX2_planOf 19 = .ok (.ireturn, 1) := by decide +kernel
theorem dX2_planOf_20 : decode cX2_planOf 20 = .ok (.bipush 24, 2) := by decide +kernel
theorem dX2_planOf_22 : decode cX2_planOf 22 = .ok (.istore_n 3, 1) := by decide +kernel
theorem dX2_planOf_23 : decode cX2_planOf 23 = .ok (.iconst 0, 1) := by decide +kernel
theorem dX2_planOf_24 : decode cX2_planOf 24 = .ok (.istore 4, 2) := by decide +kernel
theorem dX2_planOf_26 : decode cX2_planOf 26 = .ok (.iload 4, 2) := by decide +kernel
theorem dX2_planOf_28 : decode cX2_planOf 28 = .ok (.bipush 12, 2) := by decide +kernel
theorem dX2_planOf_30 : decode cX2_planOf 30 = .ok (.if_icmp .ge 32, 3) := by decide +kernel
theorem dX2_planOf_33 : decode cX2_planOf 33 = .ok (.iload_n 3, 1) := by decide +kernel
theorem dX2_planOf_34 : decode cX2_planOf 34 = .ok (.iload 4, 2) := by decide +kernel
theorem dX2_planOf_36 : decode cX2_planOf 36 = .ok (.aload_n 0, 1) := by decide +kernel
theorem dX2_planOf_37 : decode cX2_planOf 37 = .ok (.getfield 7, 3) := by decide +kernel
theorem dX2_planOf_40 : decode cX2_planOf 40 = .ok (.if_icmp .ne 7, 3) := by decide +kernel
theorem dX2_planOf_43 : decode cX2_planOf 43 = .ok (.iconst 0, 1) := by decide +kernel
theorem dX2_planOf_44 : decode cX2_planOf 44 = .ok (.goto 10, 3) := by decide +kernel
theorem dX2_planOf_47 : decode cX2_planOf 47 = .ok (.aload_n 0, 1) := by decide +kernel
theorem dX2_planOf_48 : decode cX2_planOf 48 = .ok (.getfield 13, 3) := by decide +kernel
theorem dX2_planOf_51 : decode cX2_planOf 51 = .ok (.iload 4, 2) := by decide +kernel
theorem dX2_planOf_53 : decode cX2_planOf 53 = .ok (.iaload, 1) := by decide +kernel
theorem dX2_planOf_54 : decode cX2_planOf 54 = .ok (.isub, 1) := by decide +kernel
theorem dX2_planOf_55 : decode cX2_planOf 55 = .ok (.istore_n 3, 1) := by decide +kernel
theorem dX2_planOf_56 : decode cX2_planOf 56 = .ok (.iinc 4 1, 3) := by decide +kernel
theorem dX2_planOf_59 : decode cX2_planOf 59 = .ok (.goto (-33), 3) := by decide +kernel
theorem dX2_planOf_62 : decode cX2_planOf 62 = .ok (.iload_n 3, 1) := by decide +kernel
theorem dX2_planOf_63 : decode cX2_planOf 63 = .ok (.ireturn, 1) := by decide +kernel
theorem dX2_offOf_0 : decode cX2_offOf 0 = .ok (.aload_n 0, 1) := by decide +kernel
theorem dX2_offOf_1 : decode cX2_offOf 1 = .ok (.getfield 23, 3) := by decide +kernel
theorem dX2_offOf_4 : decode cX2_offOf 4 = .ok (.iload_n 1, 1) := by decide +kernel
theorem dX2_offOf_5 : decode cX2_offOf 5 = .ok (.bipush 12, 2) := by decide +kernel
theorem dX2_offOf_7 : decode cX2_offOf 7 = .ok (.irem, 1) := by decide +kernel
theorem dX2_offOf_8 : decode cX2_offOf 8 = .ok (.iaload, 1) := by decide +kernel
theorem dX2_offOf_9 : decode cX2_offOf 9 = .ok (.ireturn, 1) := by decide +kernel
set_option maxRecDepth 20000 in
theorem ggX2_narrow_X2_offOf : GoodIn wsX2_narrow wsX2_offOf := goodIn_r _ [5, 6, 13, 14, 15, 16, 17, 18, 19] (by decide +kernel) (by decide +kernel)
set_option maxRecDepth 20000 in
theorem gX2_narrow_X2_offOf : GoodIn wsX2_narrow (wsV RX2 42 RX2 yX2_offOf wsX2_offOf) := goodIn_app (goodIn_of _ (by decide +kernel)) ggX2_narrow_X2_offOf
set_option maxRecDepth 20000 in
theorem ggX2_narrow_X2_planOf : GoodIn wsX2_narrow wsX2_planOf := goodIn_r _ [10, 11, 12, 13, 14, 15, 16, 17, 18, 19] (by decide +kernel) (by decide +kernel)
set_option maxRecDepth 20000 in
theorem gX2_narrow_X2_planOf : GoodIn wsX2_narrow (wsV RX2 46 RX2 yX2_planOf wsX2_planOf) := goodIn_app (goodIn_of _ (by decide +kernel)) ggX2_narrow_X2_planOf
theorem dX2_narrow_0 : decode cX2_narrow 0 = .ok (.aload_n 0, 1) := by decide +kernel
theorem dX2_narrow_1 : decode cX2_narrow 1 = .ok (.iload_n 1, 1) := by decide +kernel
theorem dX2_narrow_2 : decode cX2_narrow 2 = .ok (.invokevirtual 42, 3) := by decide +kernel
theorem dX2_narrow_5 : decode cX2_narrow 5 = .ok (.aload_n 0, 1) := by decide +kernel
theorem dX2_narrow_6 : decode cX2_narrow 6 = .ok (.iload_n 1, 1) := by decide +kernel
theorem dX2_narrow_7 : decode cX2_narrow 7 = .ok (.iload_n 2, 1) := by decide +kernel
theorem dX2_narrow_8 : decode cX2_narrow 8 = .ok (.iadd, 1) := by decide +kernel
theorem dX2_narrow_9 : decode cX2_narrow 9 = .ok (.invokevirtual 42, 3) := by decide +kernel
theorem dX2_narrow_12 : decode cX2_narrow 12 = .ok (.isub, 1) := by decide +kernel
theorem dX2_narrow_13 : decode cX2_narrow 13 = .ok (.istore_n 3, 1) := by decide +kernel
theorem dX2_narrow_14 : decode cX2_narrow 14 = .ok (.iload_n 1, 1) := by decide +kernel
theorem dX2_narrow_15 : decode cX2_narrow 15 = .ok (.istore 4, 2) := by decide +kernel
theorem dX2_narrow_17 : decode cX2_narrow 17 = .ok (.iload 4, 2) := by decide +kernel
theorem dX2_narrow_19 : decode cX2_narrow 19 = .ok (.iload_n 1, 1) := by decide +kernel
theorem dX2_narrow_20 : decode cX2_narrow 20 = .ok (.iload_n 2, 1) := by decide +kernel
theorem dX2_narrow_21 : decode cX2_narrow 21 = .ok (.iadd, 1) := by decide +kernel
theorem dX2_narrow_22 : decode cX2_narrow 22 = .ok (.if_icmp .ge 18, 3) := by decide +kernel
theorem dX2_narrow_25 : decode cX2_narrow 25 = .ok (.iload_n 3, 1) := by decide +kernel
theorem dX2_narrow_26 : decode cX2_narrow 26 = .ok (.aload_n 0, 1) := by decide +kernel
theorem dX2_narrow_27 : decode cX2_narrow 27 = .ok (.iload 4, 2) := by decide +kernel
theorem dX2_narrow_29 : decode cX2_narrow 29 = .ok (.invokevirtual 46, 3) := by decide +kernel
theorem dX2_narrow_32 : decode cX2_narrow 32 = .ok (.iadd, 1) := by decide +kernel
theorem dX2_narrow_33 : decode cX2_narrow 33 = .ok (.istore_n 3, 1) := by decide +kernel
theorem dX2_narrow_34 : decode cX2_narrow 34 = .ok (.iinc 4 1, 3) := by decide +kernel
theorem dX2_narrow_37 : decode cX2_narrow 37 = .ok (.goto (-20), 3) := by decide +kernel
theorem dX2_narrow_40 : decode cX2_narrow 40 = .ok (.iload_n 3, 1) := by decide +kernel
theorem dX2_narrow_41 : decode cX2_narrow 41 = .ok (.ireturn, 1) := by decide +kernel
set_option maxRecDepth 20000 in
theorem ggX2_majorOff_X2_narrow : GoodIn wsX2_majorOff wsX2_narrow := goodIn_r _ [5, 6, 7, 8, 4, 9, 10, 11, 12, 13, 14, 15, 16, 17, 18, 19, 20, 21, 22, 23] (by decide +kernel) (by decide +kernel)
set_option maxRecDepth 20000 in
theorem gX2_majorOff_X2_narrow : GoodIn wsX2_majorOff (wsV RX2 49 RX2 yX2_narrow wsX2_narrow) := goodIn_app (goodIn_of _ (by decide +kernel)) ggX2_majorOff_X2_narrow
theorem dX2_majorOff_0 : decode cX2_majorOff 0 = .ok (.sipush 408, 3) := by decide +kernel
theorem dX2_majorOff_3 : decode cX2_majorOff 3 = .ok (.aload_n 0, 1) := by decide +kernel
theorem dX2_majorOff_4 : decode cX2_majorOff 4 = .ok (.iload_n 1, 1) := by decide +kernel
theorem dX2_majorOff_5 : decode cX2_majorOff 5 = .ok (.iconst 4, 1) := by decide +kernel
theorem dX2_majorOff_6 : decode cX2_majorOff 6 = .ok (.invokevirtual 49, 3) := by decide +kernel
theorem dX2_majorOff_9 : decode cX2_majorOff 9 = .ok (.isub, 1) := by decide +kernel
theorem dX2_majorOff_10 : decode cX2_majorOff 10 = .ok (.sipush 386, 3) := by decide +kernel
theorem dX2_majorOff_13 : decode cX2_majorOff 13 = .ok (.isub, 1) := by decide +kernel
theorem dX2_majorOff_14 : decode cX2_majorOff 14 = .ok (.ireturn, 1) := by decide +kernel
set_option maxRecDepth 20000 in
theorem ggX2_minorOff_X2_narrow : GoodIn wsX2_minorOff wsX2_narrow := goodIn_r _ [5, 6, 7, 8, 4, 9, 10, 11, 12, 13, 14, 15, 16, 17, 18, 19, 20, 21, 22, 23] (by decide +kernel) (by decide +kernel)
set_option maxRecDepth 20000 in
theorem gX2_minorOff_X2_narrow : GoodIn wsX2_minorOff (wsV RX2 49 RX2 yX2_narrow wsX2_narrow) := goodIn_app (goodIn_of _ (by decide +kernel)) ggX2_minorOff_X2_narrow
theorem dX2_minorOff_0 : decode cX2_minorOff 0 = .ok (.sipush 294, 3) := by decide +kernel
theorem dX2_minorOff_3 : decode cX2_minorOff 3 = .ok (.aload_n 0, 1) := by decide +kernel
theorem dX2_minorOff_4 : decode cX2_minorOff 4 = .ok (.iload_n 1, 1) := by decide +kernel
theorem dX2_minorOff_5 : decode cX2_minorOff 5 = .ok (.bipush 9, 2) := by decide +kernel
theorem dX2_minorOff_7 : decode cX2_minorOff 7 = .ok (.iadd, 1) := by decide +kernel
theorem dX2_minorOff_8 : decode cX2_minorOff 8 = .ok (.iconst 3, 1) := by decide +kernel
theorem dX2_minorOff_9 : decode cX2_minorOff 9 = .ok (.invokevirtual 49, 3) := by decide +kernel
theorem dX2_minorOff_12 : decode cX2_minorOff 12 = .ok (.iadd, 1) := by decide +kernel
theorem dX2_minorOff_13 : decode cX2_minorOff 13 = .ok (.sipush 316, 3) := by decide +kernel
theorem dX2_minorOff_16 : decode cX2_minorOff 16 = .ok (.isub, 1) := by decide +kernel
theorem dX2_minorOff_17 : decode cX2_minorOff 17 = .ok (.ireturn, 1) := by decide +kernel
theorem dX2_keyOf_0 : decode cX2_keyOf 0 = .ok (.bipush 7, 2) := by decide +kernel
theorem dX2_keyOf_2 : decode cX2_keyOf 2 = .ok (.iload_n 0, 1) := by decide +kernel
theorem dX2_keyOf_3 : decode cX2_keyOf 3 = .ok (.imul, 1) := by decide +kernel
theorem dX2_keyOf_4 : decode cX2_keyOf 4 = .ok (.bipush 12, 2) := by decide +kernel
theorem dX2_keyOf_6 : decode cX2_keyOf 6 = .ok (.irem, 1) := by decide +kernel
theorem dX2_keyOf_7 : decode cX2_keyOf 7 = .ok (.ireturn, 1) := by decide +kernel
set_option maxRecDepth 20000 in
theorem ggX2_beats_X2_keyOf : GoodIn wsX2_beats wsX2_keyOf := goodIn_r _ [9] (by decide +kernel) (by decide +kernel)
set_option maxRecDepth 20000 in
theorem gX2_beats_X2_keyOf : GoodIn wsX2_beats (va_wsS RX2 55 yX2_keyOf wsX2_keyOf) := goodIn_app (goodIn_of _ (by decide +kernel)) ggX2_beats_X2_keyOf
theorem dX2_beats_0 : decode cX2_beats 0 = .ok (.getstatic 52, 3) := by decide +kernel
theorem dX2_beats_3 : decode cX2_beats 3 = .ok (.iload_n 0, 1) := by decide +kernel
theorem dX2_beats_4 : decode cX2_beats 4 = .ok (.invokestatic 55, 3) := by decide +kernel
theorem dX2_beats_7 : decode cX2_beats 7 = .ok (.iaload, 1) := by decide +kernel
theorem dX2_beats_8 : decode cX2_beats 8 = .ok (.iload_n 1, 1) := by decide +kernel
theorem dX2_beats_9 : decode cX2_beats 9 = .ok (.invokestatic 58, 3) := by decide +kernel
theorem dX2_beats_12 : decode cX2_beats 12 = .ok (.imul, 1) := by decide +kernel
theorem dX2_beats_13 : decode cX2_beats 13 = .ok (.bipush 100, 2) := by decide +kernel
theorem dX2_beats_15 : decode cX2_beats 15 = .ok (.imul, 1) := by decide +kernel
theorem dX2_beats_16 : decode cX2_beats 16 = .ok (.iload_n 2, 1) := by decide +kernel
theorem dX2_beats_17 : decode cX2_beats 17 = .ok (.idiv, 1) := by decide +kernel
theorem dX2_beats_18 : decode cX2_beats 18 = .ok (.ireturn, 1) := by decide +kernel
set_option maxRecDepth 20000 in
theorem ggX2_fifthBeats_X2_narrow : GoodIn wsX2_fifthBeats wsX2_narrow := goodIn_r _ [5, 6, 7, 8, 4, 9, 10, 11, 12, 13, 14, 15, 16, 28, 29, 30, 31, 32, 33, 34] (by decide +kernel) (by decide +kernel)
set_option maxRecDepth 20000 in
theorem gX2_fifthBeats_X2_narrow : GoodIn wsX2_fifthBeats (wsV RX2 49 RX2 yX2_narrow wsX2_narrow) := goodIn_app (goodIn_of _ (by decide +kernel)) ggX2_fifthBeats_X2_narrow
set_option maxRecDepth 20000 in
theorem ggX2_fifthBeats_X2_beats : GoodIn wsX2_fifthBeats wsX2_beats := goodIn_r _ [19, 20, 21, 22, 23, 24, 25, 26, 4, 27] (by decide +kernel) (by decide +kernel)
set_option maxRecDepth 20000 in
theorem gX2_fifthBeats_X2_beats : GoodIn wsX2_fifthBeats (va_wsS RX2 61 yX2_beats wsX2_beats) := goodIn_app (goodIn_of _ (by decide +kernel)) ggX2_fifthBeats_X2_beats
theorem dX2_fifthBeats_0 : decode cX2_fifthBeats 0 = .ok (.iload_n 1, 1) := by decide +kernel
theorem dX2_fifthBeats_1 : decode cX2_fifthBeats 1 = .ok (.aload_n 0, 1) := by decide +kernel
theorem dX2_fifthBeats_2 : decode cX2_fifthBeats 2 = .ok (.iload_n 1, 1) := by decide +kernel
theorem dX2_fifthBeats_3 : decode cX2_fifthBeats 3 = .ok (.iconst 1, 1) := by decide +kernel
theorem dX2_fifthBeats_4 : decode cX2_fifthBeats 4 = .ok (.invokevirtual 49, 3) := by decide +kernel
theorem dX2_fifthBeats_7 : decode cX2_fifthBeats 7 = .ok (.sipush 577, 3) := by decide +kernel
theorem dX2_fifthBeats_10 : decode cX2_fifthBeats 10 = .ok (.invokestatic 61, 3) := by decide +kernel
theorem dX2_fifthBeats_13 : decode cX2_fifthBeats 13 = .ok (.ireturn, 1) := by decide +kernel
set_option maxRecDepth 20000 in
theorem ggX2_sour_X2_majorOff : GoodIn wsX2_sour wsX2_majorOff := goodIn_r _ [9, 10, 11, 12, 8, 13, 14, 15, 16, 17, 18, 19, 20, 21, 22, 23, 24, 25, 26, 27, 28, 29, 30, 31] (by decide +kernel) (by decide +kernel)
set_option maxRecDepth 20000 in
theorem gX2_sour_X2_majorOff : GoodIn wsX2_sour (wsV RX2 65 RX2 yX2_majorOff wsX2_majorOff) := goodIn_app (goodIn_of _ (by decide +kernel)) ggX2_sour_X2_majorOff
set_option maxRecDepth 20000 in
theorem ggX2_sour_X2_narrow : GoodIn wsX2_sour wsX2_narrow := goodIn_r _ [13, 14, 15, 16, 8, 17, 18, 19, 20, 21, 22, 23, 24, 25, 26, 27, 28, 29, 30, 31] (by decide +kernel) (by decide +kernel)
set_option maxRecDepth 20000 in
theorem gX2_sour_X2_narrow : GoodIn wsX2_sour (wsV RX2 49 RX2 yX2_narrow wsX2_narrow) := goodIn_app (goodIn_of _ (by decide +kernel)) ggX2_sour_X2_narrow
theorem dX2_sour_0 : decode cX2_sour 0 = .ok (.aload_n 0, 1) := by decide +kernel
theorem dX2_sour_1 : decode cX2_sour 1 = .ok (.iload_n 1, 1) := by decide +kernel
theorem dX2_sour_2 : decode cX2_sour 2 = .ok (.invokevirtual 65, 3) := by decide +kernel
theorem dX2_sour_5 : decode cX2_sour 5 = .ok (.invokestatic 58, 3) := by decide +kernel
theorem dX2_sour_8 : decode cX2_sour 8 = .ok (.iconst 2, 1) := by decide +kernel
theorem dX2_sour_9 : decode cX2_sour 9 = .ok (.aload_n 0, 1) := by decide +kernel
theorem dX2_sour_10 : decode cX2_sour 10 = .ok (.iload_n 1, 1) := by decide +kernel
theorem dX2_sour_11 : decode cX2_sour 11 = .ok (.iconst 1, 1) := by decide +kernel
theorem dX2_sour_12 : decode cX2_sour 12 = .ok (.invokevirtual 49, 3) := by decide +kernel
theorem dX2_sour_15 : decode cX2_sour 15 = .ok (.invokestatic 58, 3) := by decide +kernel
theorem dX2_sour_18 : decode cX2_sour 18 = .ok (.imul, 1) := by decide +kernel
theorem dX2_sour_19 : decode cX2_sour 19 = .ok (.iadd, 1) := by decide +kernel
theorem dX2_sour_20 : decode cX2_sour 20 = .ok (.ireturn, 1) := by decide +kernel
set_option maxRecDepth 20000 in
theorem ggX2_costs_X2_sour : GoodIn wsX2_costs wsX2_sour := goodIn_r _ [6, 7, 8, 9, 10, 11, 12, 13, 5, 14, 15, 16, 17, 18, 19, 20, 21, 22, 23, 24, 25, 26, 27, 28, 29, 30, 31, 32, 33, 34, 35, 36] (by decide +kernel) (by decide +kernel)
set_option maxRecDepth 20000 in
theorem gX2_costs_X2_sour : GoodIn wsX2_costs (wsV RX2 68 RX2 yX2_sour wsX2_sour) := goodIn_app (goodIn_of _ (by decide +kernel)) ggX2_costs_X2_sour
theorem dX2_costs_0 : decode cX2_costs 0 = .ok (.iconst 0, 1) := by decide +kernel
theorem dX2_costs_1 : decode cX2_costs 1 = .ok (.istore_n 1, 1) := by decide +kernel
theorem dX2_costs_2 : decode cX2_costs 2 = .ok (.iconst 0, 1) := by decide +kernel
theorem dX2_costs_3 : decode cX2_costs 3 = .ok (.istore_n 2, 1) := by decide +kernel
theorem dX2_costs_4 : decode cX2_costs 4 = .ok (.iload_n 2, 1) := by decide +kernel
theorem dX2_costs_5 : decode cX2_costs 5 = .ok (.bipush 12, 2) := by decide +kernel
theorem dX2_costs_7 : decode cX2_costs 7 = .ok (.if_icmp .ge 24, 3) := by decide +kernel
theorem dX2_costs_10 : decode cX2_costs 10 = .ok (.iload_n 1, 1) := by decide +kernel
theorem dX2_costs_11 : decode cX2_costs 11 = .ok (.aload_n 0, 1) := by decide +kernel
theorem dX2_costs_12 : decode cX2_costs 12 = .ok (.getfield 20, 3) := by decide +kernel
theorem dX2_costs_15 : decode cX2_costs 15 = .ok (.iload_n 2, 1) := by decide +kernel
theorem dX2_costs_16 : decode cX2_costs 16 = .ok (.iaload, 1) := by decide +kernel
theorem dX2_costs_17 : decode cX2_costs 17 = .ok (.aload_n 0, 1) := by decide +kernel
theorem dX2_costs_18 : decode cX2_costs 18 = .ok (.iload_n 2, 1) := by decide +kernel
theorem dX2_costs_19 : decode cX2_costs 19 = .ok (.invokevirtual 68, 3) := by decide +kernel
theorem dX2_costs_22 : decode cX2_costs 22 = .ok (.imul, 1) := by decide +kernel
theorem dX2_costs_23 : decode cX2_costs 23 = .ok (.iadd, 1) := by decide +kernel
theorem dX2_costs_24 : decode cX2_costs 24 = .ok (.istore_n 1, 1) := by decide +kernel
theorem dX2_costs_25 : decode cX2_costs 25 = .ok (.iinc 2 1, 3) := by decide +kernel
theorem dX2_costs_28 : decode cX2_costs 28 = .ok (.goto (-24), 3) := by decide +kernel
theorem dX2_costs_31 : decode cX2_costs 31 = .ok (.iload_n 1, 1) := by decide +kernel
theorem dX2_costs_32 : decode cX2_costs 32 = .ok (.ireturn, 1) := by decide +kernel
set_option maxRecDepth 20000 in
theorem ggX2_place_X2_sour : GoodIn wsX2_place wsX2_sour := goodIn_r _ [5, 6, 7, 8, 9, 10, 11, 12, 4, 13, 14, 15, 16, 17, 18, 19, 20, 21, 22, 23, 24, 25, 26, 27, 28, 29, 30, 31, 32, 33, 34, 35] (by decide +kernel) (by decide +kernel)
set_option maxRecDepth 20000 in
theorem gX2_place_X2_sour : GoodIn wsX2_place (wsV RX2 68 RX2 yX2_sour wsX2_sour) := goodIn_app (goodIn_of _ (by decide +kernel)) ggX2_place_X2_sour
theorem dX2_place_0 : decode cX2_place 0 = .ok (.iconst 1, 1) := by decide +kernel
theorem dX2_place_1 : decode cX2_place 1 = .ok (.istore_n 2, 1) := by decide +kernel
theorem dX2_place_2 : decode cX2_place 2 = .ok (.iconst 0, 1) := by decide +kernel
theorem dX2_place_3 : decode cX2_place 3 = .ok (.istore_n 3, 1) := by decide +kernel
theorem dX2_place_4 : decode cX2_place 4 = .ok (.iload_n 3, 1) := by decide +kernel
theorem dX2_place_5 : decode cX2_place 5 = .ok (.bipush 12, 2) := by decide +kernel
theorem dX2_place_7 : decode cX2_place 7 = .ok (.if_icmp .ge 48, 3) := by decide +kernel
theorem dX2_place_10 : decode cX2_place 10 = .ok (.iload_n 2, 1) := by decide +kernel
theorem dX2_place_11 : decode cX2_place 11 = .ok (.aload_n 0, 1) := by decide +kernel
theorem dX2_place_12 : decode cX2_place 12 = .ok (.iload_n 3, 1) := by decide +kernel
theorem dX2_place_13 : decode cX2_place 13 = .ok (.invokevirtual 68, 3) := by decide +kernel
theorem dX2_place_16 : decode cX2_place 16 = .ok (.aload_n 0, 1) := by decide +kernel
theorem dX2_place_17 : decode cX2_place 17 = .ok (.iload_n 1, 1) := by decide +kernel
theorem dX2_place_18 : decode cX2_place 18 = .ok (.invokevirtual 68, 3) := by decide +kernel
theorem dX2_place_21 : decode cX2_place 21 = .ok (.if_icmp .lt 21, 3) := by decide +kernel
theorem dX2_place_24 : decode cX2_place 24 = .ok (.aload_n 0, 1) := by decide +kernel
theorem dX2_place_25 : decode cX2_place 25 = .ok (.iload_n 3, 1) := by decide +kernel
theorem dX2_place_26 : decode cX2_place 26 = .ok (.invokevirtual 68, 3) := by decide +kernel
theorem dX2_place_29 : decode cX2_place 29 = .ok (.aload_n 0, 1) := by decide +kernel
theorem dX2_place_30 : decode cX2_place 30 = .ok (.iload_n 1, 1) := by decide +kernel
theorem dX2_place_31 : decode cX2_place 31 = .ok (.invokevirtual 68, 3) := by decide +kernel
theorem dX2_place_34 : decode cX2_place 34 = .ok (.if_icmp .ne 12, 3) := by decide +kernel
theorem dX2_place_37 : decode cX2_place 37 = .ok (.iload_n 3, 1) := by decide +kernel
theorem dX2_place_38 : decode cX2_place 38 = .ok (.iload_n 1, 1) := by decide +kernel
theorem dX2_place_39 : decode cX2_place 39 = .ok (.if_icmp .ge 7, 3) := by decide +kernel
theorem dX2_place_42 : decode cX2_place 42 = .ok (.iconst 1, 1) := by decide +kernel
theorem dX2_place_43 : decode cX2_place 43 = .ok (.goto 4, 3) := by decide +kernel
theorem dX2_place_46 : decode cX2_place 46 = .ok (.iconst 0, 1) := by decide +kernel
theorem dX2_place_47 : decode cX2_place 47 = .ok (.iadd, 1) := by decide +kernel
theorem dX2_place_48 : decode cX2_place 48 = .ok (.istore_n 2, 1) := by decide +kernel
theorem dX2_place_49 : decode cX2_place 49 = .ok (.iinc 3 1, 3) := by decide +kernel
theorem dX2_place_52 : decode cX2_place 52 = .ok (.goto (-48), 3) := by decide +kernel
theorem dX2_place_55 : decode cX2_place 55 = .ok (.iload_n 2, 1) := by decide +kernel
theorem dX2_place_56 : decode cX2_place 56 = .ok (.ireturn, 1) := by decide +kernel
set_option maxRecDepth 20000 in
theorem ggX2_fastest_X2_fifthBeats : GoodIn wsX2_fastest wsX2_fifthBeats := goodIn_r _ [10, 11, 12, 13, 9, 14, 15, 16, 17, 18, 19, 20, 21, 22, 23, 1, 24, 25, 26, 27, 28, 29, 30, 4, 31, 32, 33, 34, 35, 36, 37, 38, 39, 40, 41] (by decide +kernel) (by decide +kernel)
set_option maxRecDepth 20000 in
theorem gX2_fastest_X2_fifthBeats : GoodIn wsX2_fastest (wsV RX2 71 RX2 yX2_fifthBeats wsX2_fifthBeats) := goodIn_app (goodIn_of _ (by decide +kernel)) ggX2_fastest_X2_fifthBeats
theorem dX2_fastest_0 : decode cX2_fastest 0 = .ok (.iconst 0, 1) := by decide +kernel
theorem dX2_fastest_1 : decode cX2_fastest 1 = .ok (.istore_n 1, 1) := by decide +kernel
theorem dX2_fastest_2 : decode cX2_fastest 2 = .ok (.iconst 0, 1) := by decide +kernel
theorem dX2_fastest_3 : decode cX2_fastest 3 = .ok (.istore_n 2, 1) := by decide +kernel
theorem dX2_fastest_4 : decode cX2_fastest 4 = .ok (.iload_n 2, 1) := by decide +kernel
theorem dX2_fastest_5 : decode cX2_fastest 5 = .ok (.bipush 12, 2) := by decide +kernel
theorem dX2_fastest_7 : decode cX2_fastest 7 = .ok (.if_icmp .ge 27, 3) := by decide +kernel
theorem dX2_fastest_10 : decode cX2_fastest 10 = .ok (.iload_n 2, 1) := by decide +kernel
theorem dX2_fastest_11 : decode cX2_fastest 11 = .ok (.aload_n 0, 1) := by decide +kernel
theorem dX2_fastest_12 : decode cX2_fastest 12 = .ok (.getfield 7, 3) := by decide +kernel
theorem dX2_fastest_15 : decode cX2_fastest 15 = .ok (.if_icmp .eq 13, 3) := by decide +kernel
theorem dX2_fastest_18 : decode cX2_fastest 18 = .ok (.iload_n 1, 1) := by decide +kernel
theorem dX2_fastest_19 : decode cX2_fastest 19 = .ok (.aload_n 0, 1) := by decide +kernel
theorem dX2_fastest_20 : decode cX2_fastest 20 = .ok (.iload_n 2, 1) := by decide +kernel
theorem dX2_fastest_21 : decode cX2_fastest 21 = .ok (.invokevirtual 71, 3) := by decide +kernel
theorem dX2_fastest_24 : decode cX2_fastest 24 = .ok (.invokestatic 39, 3) := by decide +kernel
theorem dX2_fastest_27 : decode cX2_fastest 27 = .ok (.istore_n 1, 1) := by decide +kernel
theorem dX2_fastest_28 : decode cX2_fastest 28 = .ok (.iinc 2 1, 3) := by decide +kernel
theorem dX2_fastest_31 : decode cX2_fastest 31 = .ok (.goto (-27), 3) := by decide +kernel
theorem dX2_fastest_34 : decode cX2_fastest 34 = .ok (.iload_n 1, 1) := by decide +kernel
theorem dX2_fastest_35 : decode cX2_fastest 35 = .ok (.ireturn, 1) := by decide +kernel
set_option maxRecDepth 20000 in
theorem ggX2_setFifth_X2_isOne : GoodIn wsX2_setFifth wsX2_isOne := goodIn_r _ [7, 8, 9, 6, 10] (by decide +kernel) (by decide +kernel)
set_option maxRecDepth 20000 in
theorem gX2_setFifth_X2_isOne : GoodIn wsX2_setFifth (va_wsS RX2 74 yX2_isOne wsX2_isOne) := goodIn_app (goodIn_of _ (by decide +kernel)) ggX2_setFifth_X2_isOne
set_option maxRecDepth 20000 in
theorem ggX2_setFifth_X2_no : GoodIn wsX2_setFifth wsX2_no := goodIn_r _ [14, 1, 15, 16, 17, 18, 19, 20, 21] (by decide +kernel) (by decide +kernel)
set_option maxRecDepth 20000 in
theorem gX2_setFifth_X2_no : GoodIn wsX2_setFifth (wsV RX2 78 RX2 yX2_no wsX2_no) := goodIn_app (goodIn_of _ (by decide +kernel)) ggX2_setFifth_X2_no
set_option maxRecDepth 20000 in
theorem ggX2_setFifth_X2_isIn : GoodIn wsX2_setFifth wsX2_isIn := goodIn_r _ [10] (by decide +kernel) (by decide +kernel)
set_option maxRecDepth 20000 in
theorem gX2_setFifth_X2_isIn : GoodIn wsX2_setFifth (va_wsS RX2 29 yX2_isIn wsX2_isIn) := goodIn_app (goodIn_of _ (by decide +kernel)) ggX2_setFifth_X2_isIn
theorem dX2_setFifth_0 : decode cX2_setFifth 0 = .ok (.aload_n 0, 1) := by decide +kernel
theorem dX2_setFifth_1 : decode cX2_setFifth 1 = .ok (.iconst 0, 1) := by decide +kernel
theorem dX2_setFifth_2 : decode cX2_setFifth 2 = .ok (.putfield 26, 3) := by decide +kernel
theorem dX2_setFifth_5 : decode cX2_setFifth 5 = .ok (.iload_n 1, 1) := by decide +kernel
theorem dX2_setFifth_6 : decode cX2_setFifth 6 = .ok (.invokestatic 74, 3) := by decide +kernel
theorem dX2_setFifth_9 : decode cX2_setFifth 9 = .ok (.ifCond .ne 9, 3) := by decide +kernel
theorem dX2_setFifth_12 : decode cX2_setFifth 12 = .ok (.aload_n 0, 1) := by decide +kernel
theorem dX2_setFifth_13 : decode cX2_setFifth 13 = .ok (.iconst 1, 1) := by decide +kernel
theorem dX2_setFifth_14 : decode cX2_setFifth 14 = .ok (.invokevirtual 78, 3) := by decide +kernel
theorem dX2_setFifth_17 : decode cX2_setFifth 17 = .ok (.ireturn, 1) := by decide +kernel
theorem dX2_setFifth_18 : decode cX2_setFifth 18 = .ok (.iload_n 2, 1) := by decide +kernel
theorem dX2_setFifth_19 : decode cX2_setFifth 19 = .ok (.bipush (-10), 2) := by decide +kernel
theorem dX2_setFifth_21 : decode cX2_setFifth 21 = .ok (.bipush 20, 2) := by decide +kernel
theorem dX2_setFifth_23 : decode cX2_setFifth 23 = .ok (.invokestatic 29, 3) := by decide +kernel
theorem dX2_setFifth_26 : decode cX2_setFifth 26 = .ok (.ifCond .ne 9, 3) := by decide +kernel
theorem dX2_setFifth_29 : decode cX2_setFifth 29 = .ok (.aload_n 0, 1) := by decide +kernel
theorem dX2_setFifth_30 : decode cX2_setFifth 30 = .ok (.iconst 2, 1) := by decide +kernel
theorem dX2_setFifth_31 : decode cX2_setFifth 31 = .ok (.invokevirtual 78, 3) := by decide +kernel
theorem dX2_setFifth_34 : decode cX2_setFifth 34 = .ok (.ireturn, 1) := by decide +kernel
theorem dX2_setFifth_35 : decode cX2_setFifth 35 = .ok (.iload_n 1, 1) := by decide +kernel
theorem dX2_setFifth_36 : decode cX2_setFifth 36 = .ok (.aload_n 0, 1) := by decide +kernel
theorem dX2_setFifth_37 : decode cX2_setFifth 37 = .ok (.getfield 7, 3) := by decide +kernel
theorem dX2_setFifth_40 : decode cX2_setFifth 40 = .ok (.if_icmp .ne 9, 3) := by decide +kernel
theorem dX2_setFifth_43 : decode cX2_setFifth 43 = .ok (.aload_n 0, 1) := by decide +kernel
theorem dX2_setFifth_44 : decode cX2_setFifth 44 = .ok (.iconst 3, 1) := by decide +kernel
theorem dX2_setFifth_45 : decode cX2_setFifth 45 = .ok (.invokevirtual 78, 3) := by decide +kernel
theorem dX2_setFifth_48 : decode cX2_setFifth 48 = .ok (.ireturn, 1) := by decide +kernel
theorem dX2_setFifth_49 : decode cX2_setFifth 49 = .ok (.aload_n 0, 1) := by decide +kernel
theorem dX2_setFifth_50 : decode cX2_setFifth 50 = .ok (.getfield 13, 3) := by decide +kernel
theorem dX2_setFifth_53 : decode cX2_setFifth 53 = .ok (.iload_n 1, 1) := by decide +kernel
theorem dX2_setFifth_54 : decode cX2_setFifth 54 = .ok (.iaload, 1) := by decide +kernel
theorem dX2_setFifth_55 : decode cX2_setFifth 55 = .ok (.istore_n 3, 1) := by decide +kernel
theorem dX2_setFifth_56 : decode cX2_setFifth 56 = .ok (.aload_n 0, 1) := by decide +kernel
theorem dX2_setFifth_57 : decode cX2_setFifth 57 = .ok (.getfield 13, 3) := by decide +kernel
theorem dX2_setFifth_60 : decode cX2_setFifth 60 = .ok (.iload_n 1, 1) := by decide +kernel
theorem dX2_setFifth_61 : decode cX2_setFifth 61 = .ok (.iload_n 2, 1) := by decide +kernel
theorem dX2_setFifth_62 : decode cX2_setFifth 62 = .ok (.iastore, 1) := by decide +kernel
theorem dX2_setFifth_63 : decode cX2_setFifth 63 = .ok (.iload_n 3, 1) := by decide +kernel
theorem dX2_setFifth_64 : decode cX2_setFifth 64 = .ok (.ireturn, 1) := by decide +kernel
set_option maxRecDepth 20000 in
theorem ggX2_shiftTo_X2_planOf : GoodIn wsX2_shiftTo wsX2_planOf := goodIn_r _ [7, 2, 1, 8, 9, 10, 11, 12, 13, 14] (by decide +kernel) (by decide +kernel)
set_option maxRecDepth 20000 in
theorem gX2_shiftTo_X2_planOf : GoodIn wsX2_shiftTo (wsV RX2 46 RX2 yX2_planOf wsX2_planOf) := goodIn_app (goodIn_of _ (by decide +kernel)) ggX2_shiftTo_X2_planOf
theorem dX2_shiftTo_0 : decode cX2_shiftTo 0 = .ok (.aload_n 0, 1) := by decide +kernel
theorem dX2_shiftTo_1 : decode cX2_shiftTo 1 = .ok (.getfield 13, 3) := by decide +kernel
theorem dX2_shiftTo_4 : decode cX2_shiftTo 4 = .ok (.aload_n 0, 1) := by decide +kernel
theorem dX2_shiftTo_5 : decode cX2_shiftTo 5 = .ok (.getfield 7, 3) := by decide +kernel
theorem dX2_shiftTo_8 : decode cX2_shiftTo 8 = .ok (.aload_n 0, 1) := by decide +kernel
theorem dX2_shiftTo_9 : decode cX2_shiftTo 9 = .ok (.iload_n 1, 1) := by decide +kernel
theorem dX2_shiftTo_10 : decode cX2_shiftTo 10 = .ok (.invokevirtual 46, 3) := by decide +kernel
theorem dX2_shiftTo_13 : decode cX2_shiftTo 13 = .ok (.iastore, 1) := by decide +kernel
theorem dX2_shiftTo_14 : decode cX2_shiftTo 14 = .ok (.aload_n 0, 1) := by decide +kernel
theorem dX2_shiftTo_15 : decode cX2_shiftTo 15 = .ok (.iload_n 1, 1) := by decide +kernel
theorem dX2_shiftTo_16 : decode cX2_shiftTo 16 = .ok (.putfield 7, 3) := by decide +kernel
theorem dX2_shiftTo_19 : decode cX2_shiftTo 19 = .ok (.return_, 1) := by decide +kernel
set_option maxRecDepth 20000 in
theorem ggX2_shift_X2_isOne : GoodIn wsX2_shift wsX2_isOne := goodIn_r _ [6, 7, 8, 5, 9] (by decide +kernel) (by decide +kernel)
set_option maxRecDepth 20000 in
theorem gX2_shift_X2_isOne : GoodIn wsX2_shift (va_wsS RX2 74 yX2_isOne wsX2_isOne) := goodIn_app (goodIn_of _ (by decide +kernel)) ggX2_shift_X2_isOne
set_option maxRecDepth 20000 in
theorem ggX2_shift_X2_no : GoodIn wsX2_shift wsX2_no := goodIn_r _ [13, 1, 23, 24, 25, 26, 27, 28, 29] (by decide +kernel) (by decide +kernel)
set_option maxRecDepth 20000 in
theorem gX2_shift_X2_no : GoodIn wsX2_shift (wsV RX2 78 RX2 yX2_no wsX2_no) := goodIn_app (goodIn_of _ (by decide +kernel)) ggX2_shift_X2_no
set_option maxRecDepth 20000 in
theorem ggX2_shift_X2_shiftTo : GoodIn wsX2_shift wsX2_shiftTo := goodIn_r _ [17, 18, 2, 19, 20, 21, 5, 22, 23, 24, 25, 26, 27, 28, 29] (by decide +kernel) (by decide +kernel)
set_option maxRecDepth 20000 in
theorem gX2_shift_X2_shiftTo : GoodIn wsX2_shift (wsV RX2 81 RX2 yX2_shiftTo wsX2_shiftTo) := goodIn_app (goodIn_of _ (by decide +kernel)) ggX2_shift_X2_shiftTo
theorem dX2_shift_0 : decode cX2_shift 0 = .ok (.aload_n 0, 1) := by decide +kernel
theorem dX2_shift_1 : decode cX2_shift 1 = .ok (.iconst 0, 1) := by decide +kernel
theorem dX2_shift_2 : decode cX2_shift 2 = .ok (.putfield 26, 3) := by decide +kernel
theorem dX2_shift_5 : decode cX2_shift 5 = .ok (.iload_n 1, 1) := by decide +kernel
theorem dX2_shift_6 : decode cX2_shift 6 = .ok (.invokestatic 74, 3) := by decide +kernel
theorem dX2_shift_9 : decode cX2_shift 9 = .ok (.ifCond .ne 9, 3) := by decide +kernel
theorem dX2_shift_12 : decode cX2_shift 12 = .ok (.aload_n 0, 1) := by decide +kernel
theorem dX2_shift_13 : decode cX2_shift 13 = .ok (.iconst 1, 1) := by decide +kernel
theorem dX2_shift_14 : decode cX2_shift 14 = .ok (.invokevirtual 78, 3) := by decide +kernel
theorem dX2_shift_17 : decode cX2_shift 17 = .ok (.ireturn, 1) := by decide +kernel
theorem dX2_shift_18 : decode cX2_shift 18 = .ok (.aload_n 0, 1) := by decide +kernel
theorem dX2_shift_19 : decode cX2_shift 19 = .ok (.getfield 7, 3) := by decide +kernel
theorem dX2_shift_22 : decode cX2_shift 22 = .ok (.istore_n 2, 1) := by decide +kernel
theorem dX2_shift_23 : decode cX2_shift 23 = .ok (.aload_n 0, 1) := by decide +kernel
theorem dX2_shift_24 : decode cX2_shift 24 = .ok (.iload_n 1, 1) := by decide +kernel
theorem dX2_shift_25 : decode cX2_shift 25 = .ok (.invokevirtual 81, 3) := by decide +kernel
theorem dX2_shift_28 : decode cX2_shift 28 = .ok (.iload_n 2, 1) := by decide +kernel
theorem dX2_shift_29 : decode cX2_shift 29 = .ok (.ireturn, 1) := by decide +kernel
set_option maxRecDepth 20000 in
theorem ggX2_spread_X2_isIn : GoodIn wsX2_spread wsX2_isIn := goodIn_r _ [7] (by decide +kernel) (by decide +kernel)
set_option maxRecDepth 20000 in
theorem gX2_spread_X2_isIn : GoodIn wsX2_spread (va_wsS RX2 29 yX2_isIn wsX2_isIn) := goodIn_app (goodIn_of _ (by decide +kernel)) ggX2_spread_X2_isIn
set_option maxRecDepth 20000 in
theorem ggX2_spread_X2_no : GoodIn wsX2_spread wsX2_no := goodIn_r _ [11, 1, 16, 17, 18, 19, 20, 21, 22] (by decide +kernel) (by decide +kernel)
set_option maxRecDepth 20000 in
theorem gX2_spread_X2_no : GoodIn wsX2_spread (wsV RX2 78 RX2 yX2_no wsX2_no) := goodIn_app (goodIn_of _ (by decide +kernel)) ggX2_spread_X2_no
set_option maxRecDepth 20000 in
theorem ggX2_spread_X2_planOf : GoodIn wsX2_spread wsX2_planOf := goodIn_r _ [15, 2, 3, 16, 17, 18, 19, 20, 21, 22] (by decide +kernel) (by decide +kernel)
set_option maxRecDepth 20000 in
theorem gX2_spread_X2_planOf : GoodIn wsX2_spread (wsV RX2 46 RX2 yX2_planOf wsX2_planOf) := goodIn_app (goodIn_of _ (by decide +kernel)) ggX2_spread_X2_planOf
theorem dX2_spread_0 : decode cX2_spread 0 = .ok (.aload_n 0, 1) := by decide +kernel
theorem dX2_spread_1 : decode cX2_spread 1 = .ok (.iconst 0, 1) := by decide +kernel
theorem dX2_spread_2 : decode cX2_spread 2 = .ok (.putfield 26, 3) := by decide +kernel
theorem dX2_spread_5 : decode cX2_spread 5 = .ok (.iload_n 1, 1) := by decide +kernel
theorem dX2_spread_6 : decode cX2_spread 6 = .ok (.iconst 2, 1) := by decide +kernel
theorem dX2_spread_7 : decode cX2_spread 7 = .ok (.bipush 11, 2) := by decide +kernel
theorem dX2_spread_9 : decode cX2_spread 9 = .ok (.invokestatic 29, 3) := by decide +kernel
theorem dX2_spread_12 : decode cX2_spread 12 = .ok (.ifCond .ne 9, 3) := by decide +kernel
theorem dX2_spread_15 : decode cX2_spread 15 = .ok (.aload_n 0, 1) := by decide +kernel
theorem dX2_spread_16 : decode cX2_spread 16 = .ok (.iconst 1, 1) := by decide +kernel
theorem dX2_spread_17 : decode cX2_spread 17 = .ok (.invokevirtual 78, 3) := by decide +kernel
theorem dX2_spread_20 : decode cX2_spread 20 = .ok (.ireturn, 1) := by decide +kernel
theorem dX2_spread_21 : decode cX2_spread 21 = .ok (.aload_n 0, 1) := by decide +kernel
theorem dX2_spread_22 : decode cX2_spread 22 = .ok (.aload_n 0, 1) := by decide +kernel
theorem dX2_spread_23 : decode cX2_spread 23 = .ok (.getfield 7, 3) := by decide +kernel
theorem dX2_spread_26 : decode cX2_spread 26 = .ok (.invokevirtual 46, 3) := by decide +kernel
theorem dX2_spread_29 : decode cX2_spread 29 = .ok (.istore_n 2, 1) := by decide +kernel
theorem dX2_spread_30 : decode cX2_spread 30 = .ok (.iconst 0, 1) := by decide +kernel
theorem dX2_spread_31 : decode cX2_spread 31 = .ok (.istore_n 3, 1) := by decide +kernel
theorem dX2_spread_32 : decode cX2_spread 32 = .ok (.iload_n 3, 1) := by decide +kernel
theorem dX2_spread_33 : decode cX2_spread 33 = .ok (.bipush 11, 2) := by decide +kernel
theorem dX2_spread_35 : decode cX2_spread 35 = .ok (.if_icmp .ge 52, 3) := by decide +kernel
theorem dX2_spread_38 : decode cX2_spread 38 = .ok (.aload_n 0, 1) := by decide +kernel
theorem dX2_spread_39 : decode cX2_spread 39 = .ok (.getfield 13, 3) := by decide +kernel
theorem dX2_spread_42 : decode cX2_spread 42 = .ok (.aload_n 0, 1) := by decide +kernel
theorem dX2_spread_43 : decode cX2_spread 43 = .ok (.getfield 7, 3) := by decide +kernel
theorem dX2_spread_46 : decode cX2_spread 46 = .ok (.iconst 1, 1) := by decide +kernel
theorem dX2_spread_47 : decode cX2_spread 47 = .ok (.iadd, 1) := by decide +kernel
theorem dX2_spread_48 : decode cX2_spread 48 = .ok (.iload_n 3, 1) := by decide +kernel
theorem dX2_spread_49 : decode cX2_spread 49 = .ok (.iadd, 1) := by decide +kernel
theorem dX2_spread_50 : decode cX2_spread 50 = .ok (.bipush 12, 2) := by decide +kernel
theorem dX2_spread_52 : decode cX2_spread 52 = .ok (.irem, 1) := by decide +kernel
theorem dX2_spread_53 : decode cX2_spread 53 = .ok (.iload_n 3, 1) := by decide +kernel
theorem dX2_spread_54 : decode cX2_spread 54 = .ok (.iload_n 1, 1) := by decide +kernel
theorem dX2_spread_55 : decode cX2_spread 55 = .ok (.if_icmp .lt 7, 3) := by decide +kernel
theorem dX2_spread_58 : decode cX2_spread 58 = .ok (.iconst 0, 1) := by decide +kernel
theorem dX2_spread_59 : decode cX2_spread 59 = .ok (.goto 21, 3) := by decide +kernel
theorem dX2_spread_62 : decode cX2_spread 62 = .ok (.bipush 24, 2) := by decide +kernel
theorem dX2_spread_64 : decode cX2_spread 64 = .ok (.iload_n 1, 1) := by decide +kernel
theorem dX2_spread_65 : decode cX2_spread 65 = .ok (.idiv, 1) := by decide +kernel
theorem dX2_spread_66 : decode cX2_spread 66 = .ok (.iload_n 3, 1) := by decide +kernel
theorem dX2_spread_67 : decode cX2_spread 67 = .ok (.bipush 24, 2) := by decide +kernel
theorem dX2_spread_69 : decode cX2_spread 69 = .ok (.iload_n 1, 1) := by decide +kernel
theorem dX2_spread_70 : decode cX2_spread 70 = .ok (.irem, 1) := by decide +kernel
theorem dX2_spread_71 : decode cX2_spread 71 = .ok (.if_icmp .ge 7, 3) := by decide +kernel
theorem dX2_spread_74 : decode cX2_spread 74 = .ok (.iconst 1, 1) := by decide +kernel
theorem dX2_spread_75 : decode cX2_spread 75 = .ok (.goto 4, 3) := by decide +kernel
theorem dX2_spread_78 : decode cX2_spread 78 = .ok (.iconst 0, 1) := by decide +kernel
theorem dX2_spread_79 : decode cX2_spread 79 = .ok (.iadd, 1) := by decide +kernel
theorem dX2_spread_80 : decode cX2_spread 80 = .ok (.iastore, 1) := by decide +kernel
theorem dX2_spread_81 : decode cX2_spread 81 = .ok (.iinc 3 1, 3) := by decide +kernel
theorem dX2_spread_84 : decode cX2_spread 84 = .ok (.goto (-52), 3) := by decide +kernel
theorem dX2_spread_87 : decode cX2_spread 87 = .ok (.iload_n 2, 1) := by decide +kernel
theorem dX2_spread_88 : decode cX2_spread 88 = .ok (.ireturn, 1) := by decide +kernel
set_option maxRecDepth 20000 in
theorem ggX2_setOften_X2_isOne : GoodIn wsX2_setOften wsX2_isOne := goodIn_r _ [6, 7, 8, 5, 9] (by decide +kernel) (by decide +kernel)
set_option maxRecDepth 20000 in
theorem gX2_setOften_X2_isOne : GoodIn wsX2_setOften (va_wsS RX2 74 yX2_isOne wsX2_isOne) := goodIn_app (goodIn_of _ (by decide +kernel)) ggX2_setOften_X2_isOne
set_option maxRecDepth 20000 in
theorem ggX2_setOften_X2_no : GoodIn wsX2_setOften wsX2_no := goodIn_r _ [13, 1, 14, 15, 16, 17, 18, 19, 20] (by decide +kernel) (by decide +kernel)
set_option maxRecDepth 20000 in
theorem gX2_setOften_X2_no : GoodIn wsX2_setOften (wsV RX2 78 RX2 yX2_no wsX2_no) := goodIn_app (goodIn_of _ (by decide +kernel)) ggX2_setOften_X2_no
set_option maxRecDepth 20000 in
theorem ggX2_setOften_X2_isIn : GoodIn wsX2_setOften wsX2_isIn := goodIn_r _ [9] (by decide +kernel) (by decide +kernel)
set_option maxRecDepth 20000 in
theorem gX2_setOften_X2_isIn : GoodIn wsX2_setOften (va_wsS RX2 29 yX2_isIn wsX2_isIn) := goodIn_app (goodIn_of _ (by decide +kernel)) ggX2_setOften_X2_isIn
theorem dX2_setOften_0 : decode cX2_setOften 0 = .ok (.aload_n 0, 1) := by decide +kernel
theorem dX2_setOften_1 : decode cX2_setOften 1 = .ok (.iconst 0, 1) := by decide +kernel
theorem dX2_setOften_2 : decode cX2_setOften 2 = .ok (.putfield 26, 3) := by decide +kernel
theorem dX2_setOften_5 : decode cX2_setOften 5 = .ok (.iload_n 1, 1) := by decide +kernel
theorem dX2_setOften_6 : decode cX2_setOften 6 = .ok (.invokestatic 74, 3) := by decide +kernel
theorem dX2_setOften_9 : decode cX2_setOften 9 = .ok (.ifCond .ne 9, 3) := by decide +kernel
theorem dX2_setOften_12 : decode cX2_setOften 12 = .ok (.aload_n 0, 1) := by decide +kernel
theorem dX2_setOften_13 : decode cX2_setOften 13 = .ok (.iconst 1, 1) := by decide +kernel
theorem dX2_setOften_14 : decode cX2_setOften 14 = .ok (.invokevirtual 78, 3) := by decide +kernel
theorem dX2_setOften_17 : decode cX2_setOften 17 = .ok (.ireturn, 1) := by decide +kernel
theorem dX2_setOften_18 : decode cX2_setOften 18 = .ok (.iload_n 2, 1) := by decide +kernel
theorem dX2_setOften_19 : decode cX2_setOften 19 = .ok (.iconst 0, 1) := by decide +kernel
theorem dX2_setOften_20 : decode cX2_setOften 20 = .ok (.bipush 9, 2) := by decide +kernel
theorem dX2_setOften_22 : decode cX2_setOften 22 = .ok (.invokestatic 29, 3) := by decide +kernel
theorem dX2_setOften_25 : decode cX2_setOften 25 = .ok (.ifCond .ne 9, 3) := by decide +kernel
theorem dX2_setOften_28 : decode cX2_setOften 28 = .ok (.aload_n 0, 1) := by decide +kernel
theorem dX2_setOften_29 : decode cX2_setOften 29 = .ok (.iconst 2, 1) := by decide +kernel
theorem dX2_setOften_30 : decode cX2_setOften 30 = .ok (.invokevirtual 78, 3) := by decide +kernel
theorem dX2_setOften_33 : decode cX2_setOften 33 = .ok (.ireturn, 1) := by decide +kernel
theorem dX2_setOften_34 : decode cX2_setOften 34 = .ok (.aload_n 0, 1) := by decide +kernel
theorem dX2_setOften_35 : decode cX2_setOften 35 = .ok (.getfield 20, 3) := by decide +kernel
theorem dX2_setOften_38 : decode cX2_setOften 38 = .ok (.iload_n 1, 1) := by decide +kernel
theorem dX2_setOften_39 : decode cX2_setOften 39 = .ok (.iaload, 1) := by decide +kernel
theorem dX2_setOften_40 : decode cX2_setOften 40 = .ok (.istore_n 3, 1) := by decide +kernel
theorem dX2_setOften_41 : decode cX2_setOften 41 = .ok (.aload_n 0, 1) := by decide +kernel
theorem dX2_setOften_42 : decode cX2_setOften 42 = .ok (.getfield 20, 3) := by decide +kernel
theorem dX2_setOften_45 : decode cX2_setOften 45 = .ok (.iload_n 1, 1) := by decide +kernel
theorem dX2_setOften_46 : decode cX2_setOften 46 = .ok (.iload_n 2, 1) := by decide +kernel
theorem dX2_setOften_47 : decode cX2_setOften 47 = .ok (.iastore, 1) := by decide +kernel
theorem dX2_setOften_48 : decode cX2_setOften 48 = .ok (.iload_n 3, 1) := by decide +kernel
theorem dX2_setOften_49 : decode cX2_setOften 49 = .ok (.ireturn, 1) := by decide +kernel
set_option maxRecDepth 20000 in
theorem ggX2_setDrift_X2_isOne : GoodIn wsX2_setDrift wsX2_isOne := goodIn_r _ [6, 7, 8, 5, 9] (by decide +kernel) (by decide +kernel)
set_option maxRecDepth 20000 in
theorem gX2_setDrift_X2_isOne : GoodIn wsX2_setDrift (va_wsS RX2 74 yX2_isOne wsX2_isOne) := goodIn_app (goodIn_of _ (by decide +kernel)) ggX2_setDrift_X2_isOne
set_option maxRecDepth 20000 in
theorem ggX2_setDrift_X2_no : GoodIn wsX2_setDrift wsX2_no := goodIn_r _ [13, 1, 14, 15, 16, 17, 18, 19, 20] (by decide +kernel) (by decide +kernel)
set_option maxRecDepth 20000 in
theorem gX2_setDrift_X2_no : GoodIn wsX2_setDrift (wsV RX2 78 RX2 yX2_no wsX2_no) := goodIn_app (goodIn_of _ (by decide +kernel)) ggX2_setDrift_X2_no
set_option maxRecDepth 20000 in
theorem ggX2_setDrift_X2_isIn : GoodIn wsX2_setDrift wsX2_isIn := goodIn_r _ [9] (by decide +kernel) (by decide +kernel)
set_option maxRecDepth 20000 in
theorem gX2_setDrift_X2_isIn : GoodIn wsX2_setDrift (va_wsS RX2 29 yX2_isIn wsX2_isIn) := goodIn_app (goodIn_of _ (by decide +kernel)) ggX2_setDrift_X2_isIn
theorem dX2_setDrift_0 : decode cX2_setDrift 0 = .ok (.aload_n 0, 1) := by decide +kernel
theorem dX2_setDrift_1 : decode cX2_setDrift 1 = .ok (.iconst 0, 1) := by decide +kernel
theorem dX2_setDrift_2 : decode cX2_setDrift 2 = .ok (.putfield 26, 3) := by decide +kernel
theorem dX2_setDrift_5 : decode cX2_setDrift 5 = .ok (.iload_n 1, 1) := by decide +kernel
theorem dX2_setDrift_6 : decode cX2_setDrift 6 = .ok (.invokestatic 74, 3) := by decide +kernel
theorem dX2_setDrift_9 : decode cX2_setDrift 9 = .ok (.ifCond .ne 9, 3) := by decide +kernel
theorem dX2_setDrift_12 : decode cX2_setDrift 12 = .ok (.aload_n 0, 1) := by decide +kernel
theorem dX2_setDrift_13 : decode cX2_setDrift 13 = .ok (.iconst 1, 1) := by decide +kernel
theorem dX2_setDrift_14 : decode cX2_setDrift 14 = .ok (.invokevirtual 78, 3) := by decide +kernel
theorem dX2_setDrift_17 : decode cX2_setDrift 17 = .ok (.ireturn, 1) := by decide +kernel
theorem dX2_setDrift_18 : decode cX2_setDrift 18 = .ok (.iload_n 2, 1) := by decide +kernel
theorem dX2_setDrift_19 : decode cX2_setDrift 19 = .ok (.bipush (-3), 2) := by decide +kernel
theorem dX2_setDrift_21 : decode cX2_setDrift 21 = .ok (.iconst 3, 1) := by decide +kernel
theorem dX2_setDrift_22 : decode cX2_setDrift 22 = .ok (.invokestatic 29, 3) := by decide +kernel
theorem dX2_setDrift_25 : decode cX2_setDrift 25 = .ok (.ifCond .ne 9, 3) := by decide +kernel
theorem dX2_setDrift_28 : decode cX2_setDrift 28 = .ok (.aload_n 0, 1) := by decide +kernel
theorem dX2_setDrift_29 : decode cX2_setDrift 29 = .ok (.iconst 2, 1) := by decide +kernel
theorem dX2_setDrift_30 : decode cX2_setDrift 30 = .ok (.invokevirtual 78, 3) := by decide +kernel
theorem dX2_setDrift_33 : decode cX2_setDrift 33 = .ok (.ireturn, 1) := by decide +kernel
theorem dX2_setDrift_34 : decode cX2_setDrift 34 = .ok (.aload_n 0, 1) := by decide +kernel
theorem dX2_setDrift_35 : decode cX2_setDrift 35 = .ok (.getfield 17, 3) := by decide +kernel
theorem dX2_setDrift_38 : decode cX2_setDrift 38 = .ok (.iload_n 1, 1) := by decide +kernel
theorem dX2_setDrift_39 : decode cX2_setDrift 39 = .ok (.iaload, 1) := by decide +kernel
theorem dX2_setDrift_40 : decode cX2_setDrift 40 = .ok (.istore_n 3, 1) := by decide +kernel
theorem dX2_setDrift_41 : decode cX2_setDrift 41 = .ok (.aload_n 0, 1) := by decide +kernel
theorem dX2_setDrift_42 : decode cX2_setDrift 42 = .ok (.getfield 17, 3) := by decide +kernel
theorem dX2_setDrift_45 : decode cX2_setDrift 45 = .ok (.iload_n 1, 1) := by decide +kernel
theorem dX2_setDrift_46 : decode cX2_setDrift 46 = .ok (.iload_n 2, 1) := by decide +kernel
theorem dX2_setDrift_47 : decode cX2_setDrift 47 = .ok (.iastore, 1) := by decide +kernel
theorem dX2_setDrift_48 : decode cX2_setDrift 48 = .ok (.iload_n 3, 1) := by decide +kernel
theorem dX2_setDrift_49 : decode cX2_setDrift 49 = .ok (.ireturn, 1) := by decide +kernel
theorem dX2_ahead_0 : decode cX2_ahead 0 = .ok (.iload_n 0, 1) := by decide +kernel
theorem dX2_ahead_1 : decode cX2_ahead 1 = .ok (.bipush 12, 2) := by decide +kernel
theorem dX2_ahead_3 : decode cX2_ahead 3 = .ok (.iadd, 1) := by decide +kernel
theorem dX2_ahead_4 : decode cX2_ahead 4 = .ok (.iconst 1, 1) := by decide +kernel
theorem dX2_ahead_5 : decode cX2_ahead 5 = .ok (.isub, 1) := by decide +kernel
theorem dX2_ahead_6 : decode cX2_ahead 6 = .ok (.bipush 12, 2) := by decide +kernel
theorem dX2_ahead_8 : decode cX2_ahead 8 = .ok (.irem, 1) := by decide +kernel
theorem dX2_ahead_9 : decode cX2_ahead 9 = .ok (.ireturn, 1) := by decide +kernel
set_option maxRecDepth 20000 in
theorem ggX2_canTune_X2_ahead : GoodIn wsX2_canTune wsX2_ahead := goodIn_r _ [5] (by decide +kernel) (by decide +kernel)
set_option maxRecDepth 20000 in
theorem gX2_canTune_X2_ahead : GoodIn wsX2_canTune (va_wsS RX2 85 yX2_ahead wsX2_ahead) := goodIn_app (goodIn_of _ (by decide +kernel)) ggX2_canTune_X2_ahead
theorem dX2_canTune_0 : decode cX2_canTune 0 = .ok (.iload_n 1, 1) := by decide +kernel
theorem dX2_canTune_1 : decode cX2_canTune 1 = .ok (.invokestatic 85, 3) := by decide +kernel
theorem dX2_canTune_4 : decode cX2_canTune 4 = .ok (.aload_n 0, 1) := by decide +kernel
theorem dX2_canTune_5 : decode cX2_canTune 5 = .ok (.getfield 7, 3) := by decide +kernel
theorem dX2_canTune_8 : decode cX2_canTune 8 = .ok (.if_icmp .eq 7, 3) := by decide +kernel
theorem dX2_canTune_11 : decode cX2_canTune 11 = .ok (.iconst 1, 1) := by decide +kernel
theorem dX2_canTune_12 : decode cX2_canTune 12 = .ok (.goto 4, 3) := by decide +kernel
theorem dX2_canTune_15 : decode cX2_canTune 15 = .ok (.iconst 0, 1) := by decide +kernel
theorem dX2_canTune_16 : decode cX2_canTune 16 = .ok (.ireturn, 1) := by decide +kernel
set_option maxRecDepth 20000 in
theorem ggX2_tuned_X2_ahead : GoodIn wsX2_tuned wsX2_ahead := goodIn_r _ [5] (by decide +kernel) (by decide +kernel)
set_option maxRecDepth 20000 in
theorem gX2_tuned_X2_ahead : GoodIn wsX2_tuned (va_wsS RX2 85 yX2_ahead wsX2_ahead) := goodIn_app (goodIn_of _ (by decide +kernel)) ggX2_tuned_X2_ahead
theorem dX2_tuned_0 : decode cX2_tuned 0 = .ok (.aload_n 0, 1) := by decide +kernel
theorem dX2_tuned_1 : decode cX2_tuned 1 = .ok (.getfield 23, 3) := by decide +kernel
theorem dX2_tuned_4 : decode cX2_tuned 4 = .ok (.iload_n 1, 1) := by decide +kernel
theorem dX2_tuned_5 : decode cX2_tuned 5 = .ok (.iaload, 1) := by decide +kernel
theorem dX2_tuned_6 : decode cX2_tuned 6 = .ok (.istore_n 2, 1) := by decide +kernel
theorem dX2_tuned_7 : decode cX2_tuned 7 = .ok (.aload_n 0, 1) := by decide +kernel
theorem dX2_tuned_8 : decode cX2_tuned 8 = .ok (.getfield 23, 3) := by decide +kernel
theorem dX2_tuned_11 : decode cX2_tuned 11 = .ok (.iload_n 1, 1) := by decide +kernel
theorem dX2_tuned_12 : decode cX2_tuned 12 = .ok (.aload_n 0, 1) := by decide +kernel
theorem dX2_tuned_13 : decode cX2_tuned 13 = .ok (.getfield 23, 3) := by decide +kernel
theorem dX2_tuned_16 : decode cX2_tuned 16 = .ok (.iload_n 1, 1) := by decide +kernel
theorem dX2_tuned_17 : decode cX2_tuned 17 = .ok (.invokestatic 85, 3) := by decide +kernel
theorem dX2_tuned_20 : decode cX2_tuned 20 = .ok (.iaload, 1) := by decide +kernel
theorem dX2_tuned_21 : decode cX2_tuned 21 = .ok (.iastore, 1) := by decide +kernel
theorem dX2_tuned_22 : decode cX2_tuned 22 = .ok (.aload_n 0, 1) := by decide +kernel
theorem dX2_tuned_23 : decode cX2_tuned 23 = .ok (.getfield 23, 3) := by decide +kernel
theorem dX2_tuned_26 : decode cX2_tuned 26 = .ok (.iload_n 1, 1) := by decide +kernel
theorem dX2_tuned_27 : decode cX2_tuned 27 = .ok (.iaload, 1) := by decide +kernel
theorem dX2_tuned_28 : decode cX2_tuned 28 = .ok (.iload_n 2, 1) := by decide +kernel
theorem dX2_tuned_29 : decode cX2_tuned 29 = .ok (.isub, 1) := by decide +kernel
theorem dX2_tuned_30 : decode cX2_tuned 30 = .ok (.ireturn, 1) := by decide +kernel
set_option maxRecDepth 20000 in
theorem ggX2_tune_X2_isOne : GoodIn wsX2_tune wsX2_isOne := goodIn_r _ [5, 6, 7, 4, 8] (by decide +kernel) (by decide +kernel)
set_option maxRecDepth 20000 in
theorem gX2_tune_X2_isOne : GoodIn wsX2_tune (va_wsS RX2 74 yX2_isOne wsX2_isOne) := goodIn_app (goodIn_of _ (by decide +kernel)) ggX2_tune_X2_isOne
set_option maxRecDepth 20000 in
theorem ggX2_tune_X2_no : GoodIn wsX2_tune wsX2_no := goodIn_r _ [12, 1, 26, 27, 28, 29, 30, 31, 32] (by decide +kernel) (by decide +kernel)
set_option maxRecDepth 20000 in
theorem gX2_tune_X2_no : GoodIn wsX2_tune (wsV RX2 78 RX2 yX2_no wsX2_no) := goodIn_app (goodIn_of _ (by decide +kernel)) ggX2_tune_X2_no
set_option maxRecDepth 20000 in
theorem ggX2_tune_X2_canTune : GoodIn wsX2_tune wsX2_canTune := goodIn_r _ [16, 17, 18, 19, 4, 20, 26, 27, 28, 29, 30, 31, 32] (by decide +kernel) (by decide +kernel)
set_option maxRecDepth 20000 in
theorem gX2_tune_X2_canTune : GoodIn wsX2_tune (wsV RX2 88 RX2 yX2_canTune wsX2_canTune) := goodIn_app (goodIn_of _ (by decide +kernel)) ggX2_tune_X2_canTune
set_option maxRecDepth 20000 in
theorem ggX2_tune_X2_tuned : GoodIn wsX2_tune wsX2_tuned := goodIn_r _ [24, 25, 18, 19, 4, 20, 26, 27, 28, 29, 30, 31, 32] (by decide +kernel) (by decide +kernel)
set_option maxRecDepth 20000 in
theorem gX2_tune_X2_tuned : GoodIn wsX2_tune (wsV RX2 91 RX2 yX2_tuned wsX2_tuned) := goodIn_app (goodIn_of _ (by decide +kernel)) ggX2_tune_X2_tuned
theorem dX2_tune_0 : decode cX2_tune 0 = .ok (.aload_n 0, 1) := by decide +kernel
theorem dX2_tune_1 : decode cX2_tune 1 = .ok (.iconst 0, 1) := by decide +kernel
theorem dX2_tune_2 : decode cX2_tune 2 = .ok (.putfield 26, 3) := by decide +kernel
theorem dX2_tune_5 : decode cX2_tune 5 = .ok (.iload_n 1, 1) := by decide +kernel
theorem dX2_tune_6 : decode cX2_tune 6 = .ok (.invokestatic 74, 3) := by decide +kernel
theorem dX2_tune_9 : decode cX2_tune 9 = .ok (.ifCond .ne 9, 3) := by decide +kernel
theorem dX2_tune_12 : decode cX2_tune 12 = .ok (.aload_n 0, 1) := by decide +kernel
theorem dX2_tune_13 : decode cX2_tune 13 = .ok (.iconst 1, 1) := by decide +kernel
theorem dX2_tune_14 : decode cX2_tune 14 = .ok (.invokevirtual 78, 3) := by decide +kernel
theorem dX2_tune_17 : decode cX2_tune 17 = .ok (.ireturn, 1) := by decide +kernel
theorem dX2_tune_18 : decode cX2_tune 18 = .ok (.aload_n 0, 1) := by decide +kernel
theorem dX2_tune_19 : decode cX2_tune 19 = .ok (.iload_n 1, 1) := by decide +kernel
theorem dX2_tune_20 : decode cX2_tune 20 = .ok (.invokevirtual 88, 3) := by decide +kernel
theorem dX2_tune_23 : decode cX2_tune 23 = .ok (.ifCond .eq 11, 3) := by decide +kernel
theorem dX2_tune_26 : decode cX2_tune 26 = .ok (.aload_n 0, 1) := by decide +kernel
theorem dX2_tune_27 : decode cX2_tune 27 = .ok (.iload_n 1, 1) := by decide +kernel
theorem dX2_tune_28 : decode cX2_tune 28 = .ok (.invokevirtual 91, 3) := by decide +kernel
theorem dX2_tune_31 : decode cX2_tune 31 = .ok (.goto 8, 3) := by decide +kernel
theorem dX2_tune_34 : decode cX2_tune 34 = .ok (.aload_n 0, 1) := by decide +kernel
theorem dX2_tune_35 : decode cX2_tune 35 = .ok (.iconst 2, 1) := by decide +kernel
theorem dX2_tune_36 : decode cX2_tune 36 = .ok (.invokevirtual 78, 3) := by decide +kernel
theorem dX2_tune_39 : decode cX2_tune 39 = .ok (.ireturn, 1) := by decide +kernel
set_option maxRecDepth 20000 in
theorem ggX2_tuneAll_X2_tuned : GoodIn wsX2_tuneAll wsX2_tuned := goodIn_r _ [7, 8, 9, 10, 6, 11, 12, 13, 14, 15, 16, 17, 18] (by decide +kernel) (by decide +kernel)
set_option maxRecDepth 20000 in
theorem gX2_tuneAll_X2_tuned : GoodIn wsX2_tuneAll (wsV RX2 91 RX2 yX2_tuned wsX2_tuned) := goodIn_app (goodIn_of _ (by decide +kernel)) ggX2_tuneAll_X2_tuned
theorem dX2_tuneAll_0 : decode cX2_tuneAll 0 = .ok (.aload_n 0, 1) := by decide +kernel
theorem dX2_tuneAll_1 : decode cX2_tuneAll 1 = .ok (.iconst 0, 1) := by decide +kernel
theorem dX2_tuneAll_2 : decode cX2_tuneAll 2 = .ok (.putfield 26, 3) := by decide +kernel
theorem dX2_tuneAll_5 : decode cX2_tuneAll 5 = .ok (.iconst 0, 1) := by decide +kernel
theorem dX2_tuneAll_6 : decode cX2_tuneAll 6 = .ok (.istore_n 1, 1) := by decide +kernel
theorem dX2_tuneAll_7 : decode cX2_tuneAll 7 = .ok (.iconst 2, 1) := by decide +kernel
theorem dX2_tuneAll_8 : decode cX2_tuneAll 8 = .ok (.istore_n 2, 1) := by decide +kernel
theorem dX2_tuneAll_9 : decode cX2_tuneAll 9 = .ok (.iload_n 2, 1) := by decide +kernel
theorem dX2_tuneAll_10 : decode cX2_tuneAll 10 = .ok (.bipush 12, 2) := by decide +kernel
theorem dX2_tuneAll_12 : decode cX2_tuneAll 12 = .ok (.if_icmp .gt 33, 3) := by decide +kernel
theorem dX2_tuneAll_15 : decode cX2_tuneAll 15 = .ok (.iload_n 1, 1) := by decide +kernel
theorem dX2_tuneAll_16 : decode cX2_tuneAll 16 = .ok (.aload_n 0, 1) := by decide +kernel
theorem dX2_tuneAll_17 : decode cX2_tuneAll 17 = .ok (.aload_n 0, 1) := by decide +kernel
theorem dX2_tuneAll_18 : decode cX2_tuneAll 18 = .ok (.getfield 7, 3) := by decide +kernel
theorem dX2_tuneAll_21 : decode cX2_tuneAll 21 = .ok (.iload_n 2, 1) := by decide +kernel
theorem dX2_tuneAll_22 : decode cX2_tuneAll 22 = .ok (.iadd, 1) := by decide +kernel
theorem dX2_tuneAll_23 : decode cX2_tuneAll 23 = .ok (.bipush 12, 2) := by decide +kernel
theorem dX2_tuneAll_25 : decode cX2_tuneAll 25 = .ok (.irem, 1) := by decide +kernel
theorem dX2_tuneAll_26 : decode cX2_tuneAll 26 = .ok (.invokevirtual 91, 3) := by decide +kernel
theorem dX2_tuneAll_29 : decode cX2_tuneAll 29 = .ok (.ifCond .ne 7, 3) := by decide +kernel
theorem dX2_tuneAll_32 : decode cX2_tuneAll 32 = .ok (.iconst 0, 1) := by decide +kernel
theorem dX2_tuneAll_33 : decode cX2_tuneAll 33 = .ok (.goto 4, 3) := by decide +kernel
theorem dX2_tuneAll_36 : decode cX2_tuneAll 36 = .ok (.iconst 1, 1) := by decide +kernel
theorem dX2_tuneAll_37 : decode cX2_tuneAll 37 = .ok (.iadd, 1) := by decide +kernel
theorem dX2_tuneAll_38 : decode cX2_tuneAll 38 = .ok (.istore_n 1, 1) := by decide +kernel
theorem dX2_tuneAll_39 : decode cX2_tuneAll 39 = .ok (.iinc 2 1, 3) := by decide +kernel
theorem dX2_tuneAll_42 : decode cX2_tuneAll 42 = .ok (.goto (-33), 3) := by decide +kernel
theorem dX2_tuneAll_45 : decode cX2_tuneAll 45 = .ok (.iload_n 1, 1) := by decide +kernel
theorem dX2_tuneAll_46 : decode cX2_tuneAll 46 = .ok (.ireturn, 1) := by decide +kernel
set_option maxRecDepth 20000 in
theorem ggX2_sweeten_X2_isOne : GoodIn wsX2_sweeten wsX2_isOne := goodIn_r _ [6, 7, 8, 5, 9] (by decide +kernel) (by decide +kernel)
set_option maxRecDepth 20000 in
theorem gX2_sweeten_X2_isOne : GoodIn wsX2_sweeten (va_wsS RX2 74 yX2_isOne wsX2_isOne) := goodIn_app (goodIn_of _ (by decide +kernel)) ggX2_sweeten_X2_isOne
set_option maxRecDepth 20000 in
theorem ggX2_sweeten_X2_no : GoodIn wsX2_sweeten wsX2_no := goodIn_r _ [13, 1, 42, 43, 44, 45, 46, 47, 48] (by decide +kernel) (by decide +kernel)
set_option maxRecDepth 20000 in
theorem gX2_sweeten_X2_no : GoodIn wsX2_sweeten (wsV RX2 78 RX2 yX2_no wsX2_no) := goodIn_app (goodIn_of _ (by decide +kernel)) ggX2_sweeten_X2_no
set_option maxRecDepth 20000 in
theorem ggX2_sweeten_X2_majorOff : GoodIn wsX2_sweeten wsX2_majorOff := goodIn_r _ [17, 18, 19, 20, 5, 21, 22, 23, 24, 25, 2, 26, 27, 28, 29, 30, 31, 42, 43, 44, 45, 46, 47, 48] (by decide +kernel) (by decide +kernel)
set_option maxRecDepth 20000 in
theorem gX2_sweeten_X2_majorOff : GoodIn wsX2_sweeten (wsV RX2 65 RX2 yX2_majorOff wsX2_majorOff) := goodIn_app (goodIn_of _ (by decide +kernel)) ggX2_sweeten_X2_majorOff
set_option maxRecDepth 20000 in
theorem ggX2_sweeten_X2_held : GoodIn wsX2_sweeten wsX2_held := goodIn_r _ [34, 35, 36, 37, 38, 39, 40, 41] (by decide +kernel) (by decide +kernel)
set_option maxRecDepth 20000 in
theorem gX2_sweeten_X2_held : GoodIn wsX2_sweeten (va_wsS RX2 94 yX2_held wsX2_held) := goodIn_app (goodIn_of _ (by decide +kernel)) ggX2_sweeten_X2_held
theorem dX2_sweeten_0 : decode cX2_sweeten 0 = .ok (.aload_n 0, 1) := by decide +kernel
theorem dX2_sweeten_1 : decode cX2_sweeten 1 = .ok (.iconst 0, 1) := by decide +kernel
theorem dX2_sweeten_2 : decode cX2_sweeten 2 = .ok (.putfield 26, 3) := by decide +kernel
theorem dX2_sweeten_5 : decode cX2_sweeten 5 = .ok (.iload_n 1, 1) := by decide +kernel
theorem dX2_sweeten_6 : decode cX2_sweeten 6 = .ok (.invokestatic 74, 3) := by decide +kernel
theorem dX2_sweeten_9 : decode cX2_sweeten 9 = .ok (.ifCond .ne 9, 3) := by decide +kernel
theorem dX2_sweeten_12 : decode cX2_sweeten 12 = .ok (.aload_n 0, 1) := by decide +kernel
theorem dX2_sweeten_13 : decode cX2_sweeten 13 = .ok (.iconst 1, 1) := by decide +kernel
theorem dX2_sweeten_14 : decode cX2_sweeten 14 = .ok (.invokevirtual 78, 3) := by decide +kernel
theorem dX2_sweeten_17 : decode cX2_sweeten 17 = .ok (.ireturn, 1) := by decide +kernel
theorem dX2_sweeten_18 : decode cX2_sweeten 18 = .ok (.iload_n 1, 1) := by decide +kernel
theorem dX2_sweeten_19 : decode cX2_sweeten 19 = .ok (.iconst 4, 1) := by decide +kernel
theorem dX2_sweeten_20 : decode cX2_sweeten 20 = .ok (.iadd, 1) := by decide +kernel
theorem dX2_sweeten_21 : decode cX2_sweeten 21 = .ok (.bipush 12, 2) := by decide +kernel
theorem dX2_sweeten_23 : decode cX2_sweeten 23 = .ok (.irem, 1) := by decide +kernel
theorem dX2_sweeten_24 : decode cX2_sweeten 24 = .ok (.istore_n 2, 1) := by decide +kernel
theorem dX2_sweeten_25 : decode cX2_sweeten 25 = .ok (.aload_n 0, 1) := by decide +kernel
theorem dX2_sweeten_26 : decode cX2_sweeten 26 = .ok (.getfield 23, 3) := by decide +kernel
theorem dX2_sweeten_29 : decode cX2_sweeten 29 = .ok (.iload_n 2, 1) := by decide +kernel
theorem dX2_sweeten_30 : decode cX2_sweeten 30 = .ok (.iaload, 1) := by decide +kernel
theorem dX2_sweeten_31 : decode cX2_sweeten 31 = .ok (.aload_n 0, 1) := by decide +kernel
theorem dX2_sweeten_32 : decode cX2_sweeten 32 = .ok (.iload_n 1, 1) := by decide +kernel
theorem dX2_sweeten_33 : decode cX2_sweeten 33 = .ok (.invokevirtual 65, 3) := by decide +kernel
theorem dX2_sweeten_36 : decode cX2_sweeten 36 = .ok (.isub, 1) := by decide +kernel
theorem dX2_sweeten_37 : decode cX2_sweeten 37 = .ok (.istore_n 3, 1) := by decide +kernel
theorem dX2_sweeten_38 : decode cX2_sweeten 38 = .ok (.iload_n 3, 1) := by decide +kernel
theorem dX2_sweeten_39 : decode cX2_sweeten 39 = .ok (.invokestatic 94, 3) := by decide +kernel
theorem dX2_sweeten_42 : decode cX2_sweeten 42 = .ok (.iload_n 3, 1) := by decide +kernel
theorem dX2_sweeten_43 : decode cX2_sweeten 43 = .ok (.if_icmp .eq 9, 3) := by decide +kernel
theorem dX2_sweeten_46 : decode cX2_sweeten 46 = .ok (.aload_n 0, 1) := by decide +kernel
theorem dX2_sweeten_47 : decode cX2_sweeten 47 = .ok (.iconst 2, 1) := by decide +kernel
theorem dX2_sweeten_48 : decode cX2_sweeten 48 = .ok (.invokevirtual 78, 3) := by decide +kernel
theorem dX2_sweeten_51 : decode cX2_sweeten 51 = .ok (.ireturn, 1) := by decide +kernel
theorem dX2_sweeten_52 : decode cX2_sweeten 52 = .ok (.aload_n 0, 1) := by decide +kernel
theorem dX2_sweeten_53 : decode cX2_sweeten 53 = .ok (.getfield 23, 3) := by decide +kernel
theorem dX2_sweeten_56 : decode cX2_sweeten 56 = .ok (.iload_n 2, 1) := by decide +kernel
theorem dX2_sweeten_57 : decode cX2_sweeten 57 = .ok (.iload_n 3, 1) := by decide +kernel
theorem dX2_sweeten_58 : decode cX2_sweeten 58 = .ok (.iastore, 1) := by decide +kernel
theorem dX2_sweeten_59 : decode cX2_sweeten 59 = .ok (.iload_n 3, 1) := by decide +kernel
theorem dX2_sweeten_60 : decode cX2_sweeten 60 = .ok (.ireturn, 1) := by decide +kernel
set_option maxRecDepth 20000 in
theorem ggX2_pass_X2_held : GoodIn wsX2_pass wsX2_held := goodIn_r _ [7, 8, 9, 10, 11, 12, 13, 14] (by decide +kernel) (by decide +kernel)
set_option maxRecDepth 20000 in
theorem gX2_pass_X2_held : GoodIn wsX2_pass (va_wsS RX2 94 yX2_held wsX2_held) := goodIn_app (goodIn_of _ (by decide +kernel)) ggX2_pass_X2_held
theorem dX2_pass_0 : decode cX2_pass 0 = .ok (.iconst 0, 1) := by decide +kernel
theorem dX2_pass_1 : decode cX2_pass 1 = .ok (.istore_n 1, 1) := by decide +kernel
theorem dX2_pass_2 : decode cX2_pass 2 = .ok (.iload_n 1, 1) := by decide +kernel
theorem dX2_pass_3 : decode cX2_pass 3 = .ok (.bipush 12, 2) := by decide +kernel
theorem dX2_pass_5 : decode cX2_pass 5 = .ok (.if_icmp .ge 31, 3) := by decide +kernel
theorem dX2_pass_8 : decode cX2_pass 8 = .ok (.aload_n 0, 1) := by decide +kernel
theorem dX2_pass_9 : decode cX2_pass 9 = .ok (.getfield 23, 3) := by decide +kernel
theorem dX2_pass_12 : decode cX2_pass 12 = .ok (.iload_n 1, 1) := by decide +kernel
theorem dX2_pass_13 : decode cX2_pass 13 = .ok (.aload_n 0, 1) := by decide +kernel
theorem dX2_pass_14 : decode cX2_pass 14 = .ok (.getfield 23, 3) := by decide +kernel
theorem dX2_pass_17 : decode cX2_pass 17 = .ok (.iload_n 1, 1) := by decide +kernel
theorem dX2_pass_18 : decode cX2_pass 18 = .ok (.iaload, 1) := by decide +kernel
theorem dX2_pass_19 : decode cX2_pass 19 = .ok (.aload_n 0, 1) := by decide +kernel
theorem dX2_pass_20 : decode cX2_pass 20 = .ok (.getfield 17, 3) := by decide +kernel
theorem dX2_pass_23 : decode cX2_pass 23 = .ok (.iload_n 1, 1) := by decide +kernel
theorem dX2_pass_24 : decode cX2_pass 24 = .ok (.iaload, 1) := by decide +kernel
theorem dX2_pass_25 : decode cX2_pass 25 = .ok (.iadd, 1) := by decide +kernel
theorem dX2_pass_26 : decode cX2_pass 26 = .ok (.invokestatic 94, 3) := by decide +kernel
theorem dX2_pass_29 : decode cX2_pass 29 = .ok (.iastore, 1) := by decide +kernel
theorem dX2_pass_30 : decode cX2_pass 30 = .ok (.iinc 1 1, 3) := by decide +kernel
theorem dX2_pass_33 : decode cX2_pass 33 = .ok (.goto (-31), 3) := by decide +kernel
theorem dX2_pass_36 : decode cX2_pass 36 = .ok (.aload_n 0, 1) := by decide +kernel
theorem dX2_pass_37 : decode cX2_pass 37 = .ok (.dup, 1) := by decide +kernel
theorem dX2_pass_38 : decode cX2_pass 38 = .ok (.getfield 97, 3) := by decide +kernel
theorem dX2_pass_41 : decode cX2_pass 41 = .ok (.iconst 1, 1) := by decide +kernel
theorem dX2_pass_42 : decode cX2_pass 42 = .ok (.iadd, 1) := by decide +kernel
theorem dX2_pass_43 : decode cX2_pass 43 = .ok (.putfield 97, 3) := by decide +kernel
theorem dX2_pass_46 : decode cX2_pass 46 = .ok (.return_, 1) := by decide +kernel
set_option maxRecDepth 20000 in
theorem ggX2_pass__X2_isIn : GoodIn wsX2_pass_ wsX2_isIn := goodIn_r _ [13] (by decide +kernel) (by decide +kernel)
set_option maxRecDepth 20000 in
theorem gX2_pass__X2_isIn : GoodIn wsX2_pass_ (va_wsS RX2 29 yX2_isIn wsX2_isIn) := goodIn_app (goodIn_of _ (by decide +kernel)) ggX2_pass__X2_isIn
set_option maxRecDepth 20000 in
theorem ggX2_pass__X2_no : GoodIn wsX2_pass_ wsX2_no := goodIn_r _ [17, 1, 30, 31, 32, 33, 34, 35, 36] (by decide +kernel) (by decide +kernel)
set_option maxRecDepth 20000 in
theorem gX2_pass__X2_no : GoodIn wsX2_pass_ (wsV RX2 78 RX2 yX2_no wsX2_no) := goodIn_app (goodIn_of _ (by decide +kernel)) ggX2_pass__X2_no
set_option maxRecDepth 20000 in
theorem ggX2_pass__X2_pass : GoodIn wsX2_pass_ wsX2_pass := goodIn_r _ [21, 2, 22, 23, 24, 25, 12, 26, 27, 28, 5, 29, 7, 8, 9, 30, 31, 32, 33, 34, 35, 36] (by decide +kernel) (by decide +kernel)
set_option maxRecDepth 20000 in
theorem gX2_pass__X2_pass : GoodIn wsX2_pass_ (wsV RX2 100 RX2 yX2_pass wsX2_pass) := goodIn_app (goodIn_of _ (by decide +kernel)) ggX2_pass__X2_pass
theorem dX2_pass__0 : decode cX2_pass_ 0 = .ok (.aload_n 0, 1) := by decide +kernel
theorem dX2_pass__1 : decode cX2_pass_ 1 = .ok (.iconst 0, 1) := by decide +kernel
theorem dX2_pass__2 : decode cX2_pass_ 2 = .ok (.putfield 26, 3) := by decide +kernel
theorem dX2_pass__5 : decode cX2_pass_ 5 = .ok (.iload_n 1, 1) := by decide +kernel
theorem dX2_pass__6 : decode cX2_pass_ 6 = .ok (.iconst 1, 1) := by decide +kernel
theorem dX2_pass__7 : decode cX2_pass_ 7 = .ok (.bipush 100, 2) := by decide +kernel
theorem dX2_pass__9 : decode cX2_pass_ 9 = .ok (.invokestatic 29, 3) := by decide +kernel
theorem dX2_pass__12 : decode cX2_pass_ 12 = .ok (.ifCond .ne 9, 3) := by decide +kernel
theorem dX2_pass__15 : decode cX2_pass_ 15 = .ok (.aload_n 0, 1) := by decide +kernel
theorem dX2_pass__16 : decode cX2_pass_ 16 = .ok (.iconst 1, 1) := by decide +kernel
theorem dX2_pass__17 : decode cX2_pass_ 17 = .ok (.invokevirtual 78, 3) := by decide +kernel
theorem dX2_pass__20 : decode cX2_pass_ 20 = .ok (.ireturn, 1) := by decide +kernel
theorem dX2_pass__21 : decode cX2_pass_ 21 = .ok (.iconst 0, 1) := by decide +kernel
theorem dX2_pass__22 : decode cX2_pass_ 22 = .ok (.istore_n 2, 1) := by decide +kernel
theorem dX2_pass__23 : decode cX2_pass_ 23 = .ok (.iload_n 2, 1) := by decide +kernel
theorem dX2_pass__24 : decode cX2_pass_ 24 = .ok (.iload_n 1, 1) := by decide +kernel
theorem dX2_pass__25 : decode cX2_pass_ 25 = .ok (.if_icmp .ge 13, 3) := by decide +kernel
theorem dX2_pass__28 : decode cX2_pass_ 28 = .ok (.aload_n 0, 1) := by decide +kernel
theorem dX2_pass__29 : decode cX2_pass_ 29 = .ok (.invokevirtual 100, 3) := by decide +kernel
theorem dX2_pass__32 : decode cX2_pass_ 32 = .ok (.iinc 2 1, 3) := by decide +kernel
theorem dX2_pass__35 : decode cX2_pass_ 35 = .ok (.goto (-12), 3) := by decide +kernel
theorem dX2_pass__38 : decode cX2_pass_ 38 = .ok (.iconst 0, 1) := by decide +kernel
theorem dX2_pass__39 : decode cX2_pass_ 39 = .ok (.istore_n 2, 1) := by decide +kernel
theorem dX2_pass__40 : decode cX2_pass_ 40 = .ok (.aload_n 0, 1) := by decide +kernel
theorem dX2_pass__41 : decode cX2_pass_ 41 = .ok (.getfield 23, 3) := by decide +kernel
theorem dX2_pass__44 : decode cX2_pass_ 44 = .ok (.astore_n 3, 1) := by decide +kernel
theorem dX2_pass__45 : decode cX2_pass_ 45 = .ok (.aload_n 3, 1) := by decide +kernel
theorem dX2_pass__46 : decode cX2_pass_ 46 = .ok (.arraylength, 1) := by decide +kernel
theorem dX2_pass__47 : decode cX2_pass_ 47 = .ok (.istore 4, 2) := by decide +kernel
theorem dX2_pass__49 : decode cX2_pass_ 49 = .ok (.iconst 0, 1) := by decide +kernel
theorem dX2_pass__50 : decode cX2_pass_ 50 = .ok (.istore 5, 2) := by decide +kernel
theorem dX2_pass__52 : decode cX2_pass_ 52 = .ok (.iload 5, 2) := by decide +kernel
theorem dX2_pass__54 : decode cX2_pass_ 54 = .ok (.iload 4, 2) := by decide +kernel
theorem dX2_pass__56 : decode cX2_pass_ 56 = .ok (.if_icmp .ge 25, 3) := by decide +kernel
theorem dX2_pass__59 : decode cX2_pass_ 59 = .ok (.aload_n 3, 1) := by decide +kernel
theorem dX2_pass__60 : decode cX2_pass_ 60 = .ok (.iload 5, 2) := by decide +kernel
theorem dX2_pass__62 : decode cX2_pass_ 62 = .ok (.iaload, 1) := by decide +kernel
theorem dX2_pass__63 : decode cX2_pass_ 63 = .ok (.istore 6, 2) := by decide +kernel
theorem dX2_pass__65 : decode cX2_pass_ 65 = .ok (.iload_n 2, 1) := by decide +kernel
theorem dX2_pass__66 : decode cX2_pass_ 66 = .ok (.iload 6, 2) := by decide +kernel
theorem dX2_pass__68 : decode cX2_pass_ 68 = .ok (.invokestatic 58, 3) := by decide +kernel
theorem dX2_pass__71 : decode cX2_pass_ 71 = .ok (.invokestatic 39, 3) := by decide +kernel
theorem dX2_pass__74 : decode cX2_pass_ 74 = .ok (.istore_n 2, 1) := by decide +kernel
theorem dX2_pass__75 : decode cX2_pass_ 75 = .ok (.iinc 5 1, 3) := by decide +kernel
theorem dX2_pass__78 : decode cX2_pass_ 78 = .ok (.goto (-26), 3) := by decide +kernel
theorem dX2_pass__81 : decode cX2_pass_ 81 = .ok (.iload_n 2, 1) := by decide +kernel
theorem dX2_pass__82 : decode cX2_pass_ 82 = .ok (.ireturn, 1) := by decide +kernel
set_option maxRecDepth 20000 in
theorem ggX2_fifthTold_X2_planOf : GoodIn wsX2_fifthTold wsX2_planOf := goodIn_r _ [6, 1, 7, 32, 33, 34, 35, 36, 37, 38] (by decide +kernel) (by decide +kernel)
set_option maxRecDepth 20000 in
theorem gX2_fifthTold_X2_planOf : GoodIn wsX2_fifthTold (wsV RX2 46 RX2 yX2_planOf wsX2_planOf) := goodIn_app (goodIn_of _ (by decide +kernel)) ggX2_fifthTold_X2_planOf
set_option maxRecDepth 20000 in
theorem ggX2_fifthTold_X2_narrow : GoodIn wsX2_fifthTold wsX2_narrow := goodIn_r _ [11, 12, 13, 14, 5, 15, 16, 2, 3, 4, 6, 1, 7, 32, 33, 34, 35, 36, 37, 38] (by decide +kernel) (by decide +kernel)
set_option maxRecDepth 20000 in
theorem gX2_fifthTold_X2_narrow : GoodIn wsX2_fifthTold (wsV RX2 49 RX2 yX2_narrow wsX2_narrow) := goodIn_app (goodIn_of _ (by decide +kernel)) ggX2_fifthTold_X2_narrow
set_option maxRecDepth 20000 in
theorem ggX2_fifthTold_X2_fifthBeats : GoodIn wsX2_fifthTold wsX2_fifthBeats := goodIn_r _ [20, 8, 9, 10, 5, 11, 12, 13, 14, 15, 16, 2, 3, 4, 6, 1, 7, 21, 22, 23, 24, 25, 26, 27, 28, 29, 30, 31, 32, 33, 34, 35, 36, 37, 38] (by decide +kernel) (by decide +kernel)
set_option maxRecDepth 20000 in
theorem gX2_fifthTold_X2_fifthBeats : GoodIn wsX2_fifthTold (wsV RX2 71 RX2 yX2_fifthBeats wsX2_fifthBeats) := goodIn_app (goodIn_of _ (by decide +kernel)) ggX2_fifthTold_X2_fifthBeats
theorem dX2_fifthTold_0 : decode cX2_fifthTold 0 = .ok (.iload_n 2, 1) := by decide +kernel
theorem dX2_fifthTold_1 : decode cX2_fifthTold 1 = .ok (.tableswitch 61 0 3 #[31, 37, 44, 55], 31) := by decide +kernel
theorem dX2_fifthTold_32 : decode cX2_fifthTold 32 = .ok (.aload_n 0, 1) := by decide +kernel
theorem dX2_fifthTold_33 : decode cX2_fifthTold 33 = .ok (.iload_n 1, 1) := by decide +kernel
theorem dX2_fifthTold_34 : decode cX2_fifthTold 34 = .ok (.invokevirtual 46, 3) := by decide +kernel
theorem dX2_fifthTold_37 : decode cX2_fifthTold 37 = .ok (.ireturn, 1) := by decide +kernel
theorem dX2_fifthTold_38 : decode cX2_fifthTold 38 = .ok (.aload_n 0, 1) := by decide +kernel
theorem dX2_fifthTold_39 : decode cX2_fifthTold 39 = .ok (.iload_n 1, 1) := by decide +kernel
theorem dX2_fifthTold_40 : decode cX2_fifthTold 40 = .ok (.iconst 1, 1) := by decide +kernel
theorem dX2_fifthTold_41 : decode cX2_fifthTold 41 = .ok (.invokevirtual 49, 3) := by decide +kernel
theorem dX2_fifthTold_44 : decode cX2_fifthTold 44 = .ok (.ireturn, 1) := by decide +kernel
theorem dX2_fifthTold_45 : decode cX2_fifthTold 45 = .ok (.sipush 702, 3) := by decide +kernel
theorem dX2_fifthTold_48 : decode cX2_fifthTold 48 = .ok (.aload_n 0, 1) := by decide +kernel
theorem dX2_fifthTold_49 : decode cX2_fifthTold 49 = .ok (.iload_n 1, 1) := by decide +kernel
theorem dX2_fifthTold_50 : decode cX2_fifthTold 50 = .ok (.iconst 1, 1) := by decide +kernel
theorem dX2_fifthTold_51 : decode cX2_fifthTold 51 = .ok (.invokevirtual 49, 3) := by decide +kernel
theorem dX2_fifthTold_54 : decode cX2_fifthTold 54 = .ok (.isub, 1) := by decide +kernel
theorem dX2_fifthTold_55 : decode cX2_fifthTold 55 = .ok (.ireturn, 1) := by decide +kernel
theorem dX2_fifthTold_56 : decode cX2_fifthTold 56 = .ok (.aload_n 0, 1) := by decide +kernel
theorem dX2_fifthTold_57 : decode cX2_fifthTold 57 = .ok (.iload_n 1, 1) := by decide +kernel
theorem dX2_fifthTold_58 : decode cX2_fifthTold 58 = .ok (.invokevirtual 71, 3) := by decide +kernel
theorem dX2_fifthTold_61 : decode cX2_fifthTold 61 = .ok (.ireturn, 1) := by decide +kernel
theorem dX2_fifthTold_62 : decode cX2_fifthTold 62 = .ok (.iload_n 1, 1) := by decide +kernel
theorem dX2_fifthTold_63 : decode cX2_fifthTold 63 = .ok (.aload_n 0, 1) := by decide +kernel
theorem dX2_fifthTold_64 : decode cX2_fifthTold 64 = .ok (.getfield 7, 3) := by decide +kernel
theorem dX2_fifthTold_67 : decode cX2_fifthTold 67 = .ok (.if_icmp .ne 7, 3) := by decide +kernel
theorem dX2_fifthTold_70 : decode cX2_fifthTold 70 = .ok (.iconst 1, 1) := by decide +kernel
theorem dX2_fifthTold_71 : decode cX2_fifthTold 71 = .ok (.goto 4, 3) := by decide +kernel
theorem dX2_fifthTold_74 : decode cX2_fifthTold 74 = .ok (.iconst 0, 1) := by decide +kernel
theorem dX2_fifthTold_75 : decode cX2_fifthTold 75 = .ok (.ireturn, 1) := by decide +kernel
set_option maxRecDepth 20000 in
theorem ggX2_fifth_X2_isOne : GoodIn wsX2_fifth wsX2_isOne := goodIn_r _ [5, 6, 7, 4, 8] (by decide +kernel) (by decide +kernel)
set_option maxRecDepth 20000 in
theorem gX2_fifth_X2_isOne : GoodIn wsX2_fifth (va_wsS RX2 74 yX2_isOne wsX2_isOne) := goodIn_app (goodIn_of _ (by decide +kernel)) ggX2_fifth_X2_isOne
set_option maxRecDepth 20000 in
theorem ggX2_fifth_X2_isIn : GoodIn wsX2_fifth wsX2_isIn := goodIn_r _ [8] (by decide +kernel) (by decide +kernel)
set_option maxRecDepth 20000 in
theorem gX2_fifth_X2_isIn : GoodIn wsX2_fifth (va_wsS RX2 29 yX2_isIn wsX2_isIn) := goodIn_app (goodIn_of _ (by decide +kernel)) ggX2_fifth_X2_isIn
set_option maxRecDepth 20000 in
theorem ggX2_fifth_X2_fifthTold : GoodIn wsX2_fifth wsX2_fifthTold := goodIn_r _ [12, 13, 14, 15, 16, 4, 17, 18, 19, 20, 21, 22, 23, 24, 25, 26, 27, 28, 29, 30, 31, 32, 33, 34, 35, 36, 37, 38, 39, 40, 41, 42, 47, 48, 49, 50, 51, 52, 53] (by decide +kernel) (by decide +kernel)
set_option maxRecDepth 20000 in
theorem gX2_fifth_X2_fifthTold : GoodIn wsX2_fifth (wsV RX2 103 RX2 yX2_fifthTold wsX2_fifthTold) := goodIn_app (goodIn_of _ (by decide +kernel)) ggX2_fifth_X2_fifthTold
set_option maxRecDepth 20000 in
theorem ggX2_fifth_X2_no : GoodIn wsX2_fifth wsX2_no := goodIn_r _ [46, 1, 47, 48, 49, 50, 51, 52, 53] (by decide +kernel) (by decide +kernel)
set_option maxRecDepth 20000 in
theorem gX2_fifth_X2_no : GoodIn wsX2_fifth (wsV RX2 78 RX2 yX2_no wsX2_no) := goodIn_app (goodIn_of _ (by decide +kernel)) ggX2_fifth_X2_no
theorem dX2_fifth_0 : decode cX2_fifth 0 = .ok (.aload_n 0, 1) := by decide +kernel
theorem dX2_fifth_1 : decode cX2_fifth 1 = .ok (.iconst 0, 1) := by decide +kernel
theorem dX2_fifth_2 : decode cX2_fifth 2 = .ok (.putfield 26, 3) := by decide +kernel
theorem dX2_fifth_5 : decode cX2_fifth 5 = .ok (.iload_n 1, 1) := by decide +kernel
theorem dX2_fifth_6 : decode cX2_fifth 6 = .ok (.invokestatic 74, 3) := by decide +kernel
theorem dX2_fifth_9 : decode cX2_fifth 9 = .ok (.ifCond .eq 21, 3) := by decide +kernel
theorem dX2_fifth_12 : decode cX2_fifth 12 = .ok (.iload_n 2, 1) := by decide +kernel
theorem dX2_fifth_13 : decode cX2_fifth 13 = .ok (.iconst 0, 1) := by decide +kernel
theorem dX2_fifth_14 : decode cX2_fifth 14 = .ok (.iconst 4, 1) := by decide +kernel
theorem dX2_fifth_15 : decode cX2_fifth 15 = .ok (.invokestatic 29, 3) := by decide +kernel
theorem dX2_fifth_18 : decode cX2_fifth 18 = .ok (.ifCond .eq 12, 3) := by decide +kernel
theorem dX2_fifth_21 : decode cX2_fifth 21 = .ok (.aload_n 0, 1) := by decide +kernel
theorem dX2_fifth_22 : decode cX2_fifth 22 = .ok (.iload_n 1, 1) := by decide +kernel
theorem dX2_fifth_23 : decode cX2_fifth 23 = .ok (.iload_n 2, 1) := by decide +kernel
theorem dX2_fifth_24 : decode cX2_fifth 24 = .ok (.invokevirtual 103, 3) := by decide +kernel
theorem dX2_fifth_27 : decode cX2_fifth 27 = .ok (.goto 8, 3) := by decide +kernel
theorem dX2_fifth_30 : decode cX2_fifth 30 = .ok (.aload_n 0, 1) := by decide +kernel
theorem dX2_fifth_31 : decode cX2_fifth 31 = .ok (.iconst 1, 1) := by decide +kernel
theorem dX2_fifth_32 : decode cX2_fifth 32 = .ok (.invokevirtual 78, 3) := by decide +kernel
theorem dX2_fifth_35 : decode cX2_fifth 35 = .ok (.ireturn, 1) := by decide +kernel
set_option maxRecDepth 20000 in
theorem ggX2_majorTold_X2_majorOff : GoodIn wsX2_majorTold wsX2_majorOff := goodIn_r _ [5, 6, 7, 8, 4, 9, 10, 11, 12, 13, 14, 15, 16, 17, 18, 19, 20, 32, 33, 34, 35, 36, 37, 38] (by decide +kernel) (by decide +kernel)
set_option maxRecDepth 20000 in
theorem gX2_majorTold_X2_majorOff : GoodIn wsX2_majorTold (wsV RX2 65 RX2 yX2_majorOff wsX2_majorOff) := goodIn_app (goodIn_of _ (by decide +kernel)) ggX2_majorTold_X2_majorOff
set_option maxRecDepth 20000 in
theorem ggX2_majorTold_X2_beats : GoodIn wsX2_majorTold wsX2_beats := goodIn_r _ [23, 24, 25, 26, 27, 28, 29, 30, 4, 31] (by decide +kernel) (by decide +kernel)
set_option maxRecDepth 20000 in
theorem gX2_majorTold_X2_beats : GoodIn wsX2_majorTold (va_wsS RX2 61 yX2_beats wsX2_beats) := goodIn_app (goodIn_of _ (by decide +kernel)) ggX2_majorTold_X2_beats
theorem dX2_majorTold_0 : decode cX2_majorTold 0 = .ok (.iload_n 2, 1) := by decide +kernel
theorem dX2_majorTold_1 : decode cX2_majorTold 1 = .ok (.ifCond .ne 15, 3) := by decide +kernel
theorem dX2_majorTold_4 : decode cX2_majorTold 4 = .ok (.sipush 386, 3) := by decide +kernel
theorem dX2_majorTold_7 : decode cX2_majorTold 7 = .ok (.aload_n 0, 1) := by decide +kernel
theorem dX2_majorTold_8 : decode cX2_majorTold 8 = .ok (.iload_n 1, 1) := by decide +kernel
theorem dX2_majorTold_9 : decode cX2_majorTold 9 = .ok (.invokevirtual 65, 3) := by decide +kernel
theorem dX2_majorTold_12 : decode cX2_majorTold 12 = .ok (.iadd, 1) := by decide +kernel
theorem dX2_majorTold_13 : decode cX2_majorTold 13 = .ok (.goto 28, 3) := by decide +kernel
theorem dX2_majorTold_16 : decode cX2_majorTold 16 = .ok (.iload_n 2, 1) := by decide +kernel
theorem dX2_majorTold_17 : decode cX2_majorTold 17 = .ok (.iconst 1, 1) := by decide +kernel
theorem dX2_majorTold_18 : decode cX2_majorTold 18 = .ok (.if_icmp .ne 11, 3) := by decide +kernel
theorem dX2_majorTold_21 : decode cX2_majorTold 21 = .ok (.aload_n 0, 1) := by decide +kernel
theorem dX2_majorTold_22 : decode cX2_majorTold 22 = .ok (.iload_n 1, 1) := by decide +kernel
theorem dX2_majorTold_23 : decode cX2_majorTold 23 = .ok (.invokevirtual 65, 3) := by decide +kernel
theorem dX2_majorTold_26 : decode cX2_majorTold 26 = .ok (.goto 15, 3) := by decide +kernel
theorem dX2_majorTold_29 : decode cX2_majorTold 29 = .ok (.iload_n 1, 1) := by decide +kernel
theorem dX2_majorTold_30 : decode cX2_majorTold 30 = .ok (.aload_n 0, 1) := by decide +kernel
theorem dX2_majorTold_31 : decode cX2_majorTold 31 = .ok (.iload_n 1, 1) := by decide +kernel
theorem dX2_majorTold_32 : decode cX2_majorTold 32 = .ok (.invokevirtual 65, 3) := by decide +kernel
theorem dX2_majorTold_35 : decode cX2_majorTold 35 = .ok (.sipush 346, 3) := by decide +kernel
theorem dX2_majorTold_38 : decode cX2_majorTold 38 = .ok (.invokestatic 61, 3) := by decide +kernel
theorem dX2_majorTold_41 : decode cX2_majorTold 41 = .ok (.ireturn, 1) := by decide +kernel
set_option maxRecDepth 20000 in
theorem ggX2_major_X2_isOne : GoodIn wsX2_major wsX2_isOne := goodIn_r _ [5, 6, 7, 4, 8] (by decide +kernel) (by decide +kernel)
set_option maxRecDepth 20000 in
theorem gX2_major_X2_isOne : GoodIn wsX2_major (va_wsS RX2 74 yX2_isOne wsX2_isOne) := goodIn_app (goodIn_of _ (by decide +kernel)) ggX2_major_X2_isOne
set_option maxRecDepth 20000 in
theorem ggX2_major_X2_isIn : GoodIn wsX2_major wsX2_isIn := goodIn_r _ [8] (by decide +kernel) (by decide +kernel)
set_option maxRecDepth 20000 in
theorem gX2_major_X2_isIn : GoodIn wsX2_major (va_wsS RX2 29 yX2_isIn wsX2_isIn) := goodIn_app (goodIn_of _ (by decide +kernel)) ggX2_major_X2_isIn
set_option maxRecDepth 20000 in
theorem ggX2_major_X2_majorTold : GoodIn wsX2_major wsX2_majorTold := goodIn_r _ [12, 13, 14, 15, 4, 16, 17, 18, 19, 20, 21, 22, 23, 24, 25, 26, 27, 28, 29, 30, 31, 32, 33, 34, 35, 36, 37, 38, 39, 40, 41, 42, 47, 48, 49, 50, 51, 52, 53] (by decide +kernel) (by decide +kernel)
set_option maxRecDepth 20000 in
theorem gX2_major_X2_majorTold : GoodIn wsX2_major (wsV RX2 106 RX2 yX2_majorTold wsX2_majorTold) := goodIn_app (goodIn_of _ (by decide +kernel)) ggX2_major_X2_majorTold
set_option maxRecDepth 20000 in
theorem ggX2_major_X2_no : GoodIn wsX2_major wsX2_no := goodIn_r _ [46, 1, 47, 48, 49, 50, 51, 52, 53] (by decide +kernel) (by decide +kernel)
set_option maxRecDepth 20000 in
theorem gX2_major_X2_no : GoodIn wsX2_major (wsV RX2 78 RX2 yX2_no wsX2_no) := goodIn_app (goodIn_of _ (by decide +kernel)) ggX2_major_X2_no
theorem dX2_major_0 : decode cX2_major 0 = .ok (.aload_n 0, 1) := by decide +kernel
theorem dX2_major_1 : decode cX2_major 1 = .ok (.iconst 0, 1) := by decide +kernel
theorem dX2_major_2 : decode cX2_major 2 = .ok (.putfield 26, 3) := by decide +kernel
theorem dX2_major_5 : decode cX2_major 5 = .ok (.iload_n 1, 1) := by decide +kernel
theorem dX2_major_6 : decode cX2_major 6 = .ok (.invokestatic 74, 3) := by decide +kernel
theorem dX2_major_9 : decode cX2_major 9 = .ok (.ifCond .eq 21, 3) := by decide +kernel
theorem dX2_major_12 : decode cX2_major 12 = .ok (.iload_n 2, 1) := by decide +kernel
theorem dX2_major_13 : decode cX2_major 13 = .ok (.iconst 0, 1) := by decide +kernel
theorem dX2_major_14 : decode cX2_major 14 = .ok (.iconst 2, 1) := by decide +kernel
theorem dX2_major_15 : decode cX2_major 15 = .ok (.invokestatic 29, 3) := by decide +kernel
theorem dX2_major_18 : decode cX2_major 18 = .ok (.ifCond .eq 12, 3) := by decide +kernel
theorem dX2_major_21 : decode cX2_major 21 = .ok (.aload_n 0, 1) := by decide +kernel
theorem dX2_major_22 : decode cX2_major 22 = .ok (.iload_n 1, 1) := by decide +kernel
theorem dX2_major_23 : decode cX2_major 23 = .ok (.iload_n 2, 1) := by decide +kernel
theorem dX2_major_24 : decode cX2_major 24 = .ok (.invokevirtual 106, 3) := by decide +kernel
theorem dX2_major_27 : decode cX2_major 27 = .ok (.goto 8, 3) := by decide +kernel
theorem dX2_major_30 : decode cX2_major 30 = .ok (.aload_n 0, 1) := by decide +kernel
theorem dX2_major_31 : decode cX2_major 31 = .ok (.iconst 1, 1) := by decide +kernel
theorem dX2_major_32 : decode cX2_major 32 = .ok (.invokevirtual 78, 3) := by decide +kernel
theorem dX2_major_35 : decode cX2_major 35 = .ok (.ireturn, 1) := by decide +kernel
set_option maxRecDepth 20000 in
theorem ggX2_minorTold_X2_minorOff : GoodIn wsX2_minorTold wsX2_minorOff := goodIn_r _ [5, 6, 7, 8, 4, 9, 10, 11, 12, 13, 14, 15, 16, 17, 18, 19, 20, 21, 22, 23, 24, 25, 26, 27] (by decide +kernel) (by decide +kernel)
set_option maxRecDepth 20000 in
theorem gX2_minorTold_X2_minorOff : GoodIn wsX2_minorTold (wsV RX2 109 RX2 yX2_minorOff wsX2_minorOff) := goodIn_app (goodIn_of _ (by decide +kernel)) ggX2_minorTold_X2_minorOff
theorem dX2_minorTold_0 : decode cX2_minorTold 0 = .ok (.iload_n 2, 1) := by decide +kernel
theorem dX2_minorTold_1 : decode cX2_minorTold 1 = .ok (.ifCond .ne 15, 3) := by decide +kernel
theorem dX2_minorTold_4 : decode cX2_minorTold 4 = .ok (.sipush 316, 3) := by decide +kernel
theorem dX2_minorTold_7 : decode cX2_minorTold 7 = .ok (.aload_n 0, 1) := by decide +kernel
theorem dX2_minorTold_8 : decode cX2_minorTold 8 = .ok (.iload_n 1, 1) := by decide +kernel
theorem dX2_minorTold_9 : decode cX2_minorTold 9 = .ok (.invokevirtual 109, 3) := by decide +kernel
theorem dX2_minorTold_12 : decode cX2_minorTold 12 = .ok (.iadd, 1) := by decide +kernel
theorem dX2_minorTold_13 : decode cX2_minorTold 13 = .ok (.goto 8, 3) := by decide +kernel
theorem dX2_minorTold_16 : decode cX2_minorTold 16 = .ok (.aload_n 0, 1) := by decide +kernel
theorem dX2_minorTold_17 : decode cX2_minorTold 17 = .ok (.iload_n 1, 1) := by decide +kernel
theorem dX2_minorTold_18 : decode cX2_minorTold 18 = .ok (.invokevirtual 109, 3) := by decide +kernel
theorem dX2_minorTold_21 : decode cX2_minorTold 21 = .ok (.ireturn, 1) := by decide +kernel
set_option maxRecDepth 20000 in
theorem ggX2_minor_X2_isOne : GoodIn wsX2_minor wsX2_isOne := goodIn_r _ [5, 6, 7, 4, 8] (by decide +kernel) (by decide +kernel)
set_option maxRecDepth 20000 in
theorem gX2_minor_X2_isOne : GoodIn wsX2_minor (va_wsS RX2 74 yX2_isOne wsX2_isOne) := goodIn_app (goodIn_of _ (by decide +kernel)) ggX2_minor_X2_isOne
set_option maxRecDepth 20000 in
theorem ggX2_minor_X2_isIn : GoodIn wsX2_minor wsX2_isIn := goodIn_r _ [8] (by decide +kernel) (by decide +kernel)
set_option maxRecDepth 20000 in
theorem gX2_minor_X2_isIn : GoodIn wsX2_minor (va_wsS RX2 29 yX2_isIn wsX2_isIn) := goodIn_app (goodIn_of _ (by decide +kernel)) ggX2_minor_X2_isIn
set_option maxRecDepth 20000 in
theorem ggX2_minor_X2_minorTold : GoodIn wsX2_minor wsX2_minorTold := goodIn_r _ [12, 13, 14, 15, 4, 16, 17, 18, 19, 20, 21, 22, 23, 24, 25, 26, 27, 28, 29, 30, 31, 36, 37, 38, 39, 40, 41, 42] (by decide +kernel) (by decide +kernel)
set_option maxRecDepth 20000 in
theorem gX2_minor_X2_minorTold : GoodIn wsX2_minor (wsV RX2 112 RX2 yX2_minorTold wsX2_minorTold) := goodIn_app (goodIn_of _ (by decide +kernel)) ggX2_minor_X2_minorTold
set_option maxRecDepth 20000 in
theorem ggX2_minor_X2_no : GoodIn wsX2_minor wsX2_no := goodIn_r _ [35, 1, 36, 37, 38, 39, 40, 41, 42] (by decide +kernel) (by decide +kernel)
set_option maxRecDepth 20000 in
theorem gX2_minor_X2_no : GoodIn wsX2_minor (wsV RX2 78 RX2 yX2_no wsX2_no) := goodIn_app (goodIn_of _ (by decide +kernel)) ggX2_minor_X2_no
theorem dX2_minor_0 : decode cX2_minor 0 = .ok (.aload_n 0, 1) := by decide +kernel
theorem dX2_minor_1 : decode cX2_minor 1 = .ok (.iconst 0, 1) := by decide +kernel
theorem dX2_minor_2 : decode cX2_minor 2 = .ok (.putfield 26, 3) := by decide +kernel
theorem dX2_minor_5 : decode cX2_minor 5 = .ok (.iload_n 1, 1) := by decide +kernel
theorem dX2_minor_6 : decode cX2_minor 6 = .ok (.invokestatic 74, 3) := by decide +kernel
theorem dX2_minor_9 : decode cX2_minor 9 = .ok (.ifCond .eq 21, 3) := by decide +kernel
theorem dX2_minor_12 : decode cX2_minor 12 = .ok (.iload_n 2, 1) := by decide +kernel
theorem dX2_minor_13 : decode cX2_minor 13 = .ok (.iconst 0, 1) := by decide +kernel
theorem dX2_minor_14 : decode cX2_minor 14 = .ok (.iconst 1, 1) := by decide +kernel
theorem dX2_minor_15 : decode cX2_minor 15 = .ok (.invokestatic 29, 3) := by decide +kernel
theorem dX2_minor_18 : decode cX2_minor 18 = .ok (.ifCond .eq 12, 3) := by decide +kernel
theorem dX2_minor_21 : decode cX2_minor 21 = .ok (.aload_n 0, 1) := by decide +kernel
theorem dX2_minor_22 : decode cX2_minor 22 = .ok (.iload_n 1, 1) := by decide +kernel
theorem dX2_minor_23 : decode cX2_minor 23 = .ok (.iload_n 2, 1) := by decide +kernel
theorem dX2_minor_24 : decode cX2_minor 24 = .ok (.invokevirtual 112, 3) := by decide +kernel
theorem dX2_minor_27 : decode cX2_minor 27 = .ok (.goto 8, 3) := by decide +kernel
theorem dX2_minor_30 : decode cX2_minor 30 = .ok (.aload_n 0, 1) := by decide +kernel
theorem dX2_minor_31 : decode cX2_minor 31 = .ok (.iconst 1, 1) := by decide +kernel
theorem dX2_minor_32 : decode cX2_minor 32 = .ok (.invokevirtual 78, 3) := by decide +kernel
theorem dX2_minor_35 : decode cX2_minor 35 = .ok (.ireturn, 1) := by decide +kernel
set_option maxRecDepth 20000 in
theorem ggX2_noteTold_X2_keyOf : GoodIn wsX2_noteTold wsX2_keyOf := goodIn_r _ [7] (by decide +kernel) (by decide +kernel)
set_option maxRecDepth 20000 in
theorem gX2_noteTold_X2_keyOf : GoodIn wsX2_noteTold (va_wsS RX2 55 yX2_keyOf wsX2_keyOf) := goodIn_app (goodIn_of _ (by decide +kernel)) ggX2_noteTold_X2_keyOf
set_option maxRecDepth 20000 in
theorem ggX2_noteTold_X2_narrow : GoodIn wsX2_noteTold wsX2_narrow := goodIn_r _ [11, 12, 13, 14, 6, 15, 1, 16, 17, 18, 19, 20, 21, 26, 27, 28, 29, 30, 31, 32] (by decide +kernel) (by decide +kernel)
set_option maxRecDepth 20000 in
theorem gX2_noteTold_X2_narrow : GoodIn wsX2_noteTold (wsV RX2 49 RX2 yX2_narrow wsX2_narrow) := goodIn_app (goodIn_of _ (by decide +kernel)) ggX2_noteTold_X2_narrow
set_option maxRecDepth 20000 in
theorem ggX2_noteTold_J9_floorMod_7cf53 : GoodIn wsX2_noteTold wsJ9_floorMod_7cf53 := goodIn_r _ [25] (by decide +kernel) (by decide +kernel)
set_option maxRecDepth 20000 in
theorem gX2_noteTold_J9_floorMod_7cf53 : GoodIn wsX2_noteTold (va_wsS RX2 115 yJ9_floorMod_7cf53 wsJ9_floorMod_7cf53) := goodIn_app (goodIn_of _ (by decide +kernel)) ggX2_noteTold_J9_floorMod_7cf53
theorem dX2_noteTold_0 : decode cX2_noteTold 0 = .ok (.iload_n 2, 1) := by decide +kernel
theorem dX2_noteTold_1 : decode cX2_noteTold 1 = .ok (.tableswitch 59 0 3 #[31, 38, 45, 50], 31) := by decide +kernel
theorem dX2_noteTold_32 : decode cX2_noteTold 32 = .ok (.aload_n 0, 1) := by decide +kernel
theorem dX2_noteTold_33 : decode cX2_noteTold 33 = .ok (.getfield 23, 3) := by decide +kernel
theorem dX2_noteTold_36 : decode cX2_noteTold 36 = .ok (.iload_n 1, 1) := by decide +kernel
theorem dX2_noteTold_37 : decode cX2_noteTold 37 = .ok (.iaload, 1) := by decide +kernel
theorem dX2_noteTold_38 : decode cX2_noteTold 38 = .ok (.ireturn, 1) := by decide +kernel
theorem dX2_noteTold_39 : decode cX2_noteTold 39 = .ok (.aload_n 0, 1) := by decide +kernel
theorem dX2_noteTold_40 : decode cX2_noteTold 40 = .ok (.getfield 17, 3) := by decide +kernel
theorem dX2_noteTold_43 : decode cX2_noteTold 43 = .ok (.iload_n 1, 1) := by decide +kernel
theorem dX2_noteTold_44 : decode cX2_noteTold 44 = .ok (.iaload, 1) := by decide +kernel
theorem dX2_noteTold_45 : decode cX2_noteTold 45 = .ok (.ireturn, 1) := by decide +kernel
theorem dX2_noteTold_46 : decode cX2_noteTold 46 = .ok (.iload_n 1, 1) := by decide +kernel
theorem dX2_noteTold_47 : decode cX2_noteTold 47 = .ok (.invokestatic 55, 3) := by decide +kernel
theorem dX2_noteTold_50 : decode cX2_noteTold 50 = .ok (.ireturn, 1) := by decide +kernel
theorem dX2_noteTold_51 : decode cX2_noteTold 51 = .ok (.getstatic 52, 3) := by decide +kernel
theorem dX2_noteTold_54 : decode cX2_noteTold 54 = .ok (.iload_n 1, 1) := by decide +kernel
theorem dX2_noteTold_55 : decode cX2_noteTold 55 = .ok (.invokestatic 55, 3) := by decide +kernel
theorem dX2_noteTold_58 : decode cX2_noteTold 58 = .ok (.iaload, 1) := by decide +kernel
theorem dX2_noteTold_59 : decode cX2_noteTold 59 = .ok (.ireturn, 1) := by decide +kernel
theorem dX2_noteTold_60 : decode cX2_noteTold 60 = .ok (.sipush 702, 3) := by decide +kernel
theorem dX2_noteTold_63 : decode cX2_noteTold 63 = .ok (.iload_n 1, 1) := by decide +kernel
theorem dX2_noteTold_64 : decode cX2_noteTold 64 = .ok (.imul, 1) := by decide +kernel
theorem dX2_noteTold_65 : decode cX2_noteTold 65 = .ok (.aload_n 0, 1) := by decide +kernel
theorem dX2_noteTold_66 : decode cX2_noteTold 66 = .ok (.iconst 0, 1) := by decide +kernel
theorem dX2_noteTold_67 : decode cX2_noteTold 67 = .ok (.iload_n 1, 1) := by decide +kernel
theorem dX2_noteTold_68 : decode cX2_noteTold 68 = .ok (.invokevirtual 49, 3) := by decide +kernel
theorem dX2_noteTold_71 : decode cX2_noteTold 71 = .ok (.isub, 1) := by decide +kernel
theorem dX2_noteTold_72 : decode cX2_noteTold 72 = .ok (.sipush 1200, 3) := by decide +kernel
theorem dX2_noteTold_75 : decode cX2_noteTold 75 = .ok (.invokestatic 115, 3) := by decide +kernel
theorem dX2_noteTold_78 : decode cX2_noteTold 78 = .ok (.ireturn, 1) := by decide +kernel
set_option maxRecDepth 20000 in
theorem ggX2_note_X2_isOne : GoodIn wsX2_note wsX2_isOne := goodIn_r _ [5, 6, 7, 4, 8] (by decide +kernel) (by decide +kernel)
set_option maxRecDepth 20000 in
theorem gX2_note_X2_isOne : GoodIn wsX2_note (va_wsS RX2 74 yX2_isOne wsX2_isOne) := goodIn_app (goodIn_of _ (by decide +kernel)) ggX2_note_X2_isOne
set_option maxRecDepth 20000 in
theorem ggX2_note_X2_isIn : GoodIn wsX2_note wsX2_isIn := goodIn_r _ [8] (by decide +kernel) (by decide +kernel)
set_option maxRecDepth 20000 in
theorem gX2_note_X2_isIn : GoodIn wsX2_note (va_wsS RX2 29 yX2_isIn wsX2_isIn) := goodIn_app (goodIn_of _ (by decide +kernel)) ggX2_note_X2_isIn
set_option maxRecDepth 20000 in
theorem ggX2_note_X2_noteTold : GoodIn wsX2_note wsX2_noteTold := goodIn_r _ [12, 13, 14, 15, 16, 17, 4, 18, 19, 20, 21, 22, 23, 24, 25, 26, 27, 28, 29, 30, 31, 32, 33, 34, 35, 36, 41, 42, 43, 44, 45, 46, 47] (by decide +kernel) (by decide +kernel)
set_option maxRecDepth 20000 in
theorem gX2_note_X2_noteTold : GoodIn wsX2_note (wsV RX2 118 RX2 yX2_noteTold wsX2_noteTold) := goodIn_app (goodIn_of _ (by decide +kernel)) ggX2_note_X2_noteTold
set_option maxRecDepth 20000 in
theorem ggX2_note_X2_no : GoodIn wsX2_note wsX2_no := goodIn_r _ [40, 1, 41, 42, 43, 44, 45, 46, 47] (by decide +kernel) (by decide +kernel)
set_option maxRecDepth 20000 in
theorem gX2_note_X2_no : GoodIn wsX2_note (wsV RX2 78 RX2 yX2_no wsX2_no) := goodIn_app (goodIn_of _ (by decide +kernel)) ggX2_note_X2_no
theorem dX2_note_0 : decode cX2_note 0 = .ok (.aload_n 0, 1) := by decide +kernel
theorem dX2_note_1 : decode cX2_note 1 = .ok (.iconst 0, 1) := by decide +kernel
theorem dX2_note_2 : decode cX2_note 2 = .ok (.putfield 26, 3) := by decide +kernel
theorem dX2_note_5 : decode cX2_note 5 = .ok (.iload_n 1, 1) := by decide +kernel
theorem dX2_note_6 : decode cX2_note 6 = .ok (.invokestatic 74, 3) := by decide +kernel
theorem dX2_note_9 : decode cX2_note 9 = .ok (.ifCond .eq 21, 3) := by decide +kernel
theorem dX2_note_12 : decode cX2_note 12 = .ok (.iload_n 2, 1) := by decide +kernel
theorem dX2_note_13 : decode cX2_note 13 = .ok (.iconst 0, 1) := by decide +kernel
theorem dX2_note_14 : decode cX2_note 14 = .ok (.iconst 4, 1) := by decide +kernel
theorem dX2_note_15 : decode cX2_note 15 = .ok (.invokestatic 29, 3) := by decide +kernel
theorem dX2_note_18 : decode cX2_note 18 = .ok (.ifCond .eq 12, 3) := by decide +kernel
theorem dX2_note_21 : decode cX2_note 21 = .ok (.aload_n 0, 1) := by decide +kernel
theorem dX2_note_22 : decode cX2_note 22 = .ok (.iload_n 1, 1) := by decide +kernel
theorem dX2_note_23 : decode cX2_note 23 = .ok (.iload_n 2, 1) := by decide +kernel
theorem dX2_note_24 : decode cX2_note 24 = .ok (.invokevirtual 118, 3) := by decide +kernel
theorem dX2_note_27 : decode cX2_note 27 = .ok (.goto 8, 3) := by decide +kernel
theorem dX2_note_30 : decode cX2_note 30 = .ok (.aload_n 0, 1) := by decide +kernel
theorem dX2_note_31 : decode cX2_note 31 = .ok (.iconst 1, 1) := by decide +kernel
theorem dX2_note_32 : decode cX2_note 32 = .ok (.invokevirtual 78, 3) := by decide +kernel
theorem dX2_note_35 : decode cX2_note 35 = .ok (.ireturn, 1) := by decide +kernel
set_option maxRecDepth 20000 in
theorem ggX2_keyTold_X2_sour : GoodIn wsX2_keyTold wsX2_sour := goodIn_r _ [6, 7, 8, 9, 10, 11, 12, 13, 5, 14, 15, 16, 17, 18, 19, 20, 21, 22, 23, 24, 25, 26, 27, 28, 29, 34, 35, 36, 37, 38, 39, 40] (by decide +kernel) (by decide +kernel)
set_option maxRecDepth 20000 in
theorem gX2_keyTold_X2_sour : GoodIn wsX2_keyTold (wsV RX2 68 RX2 yX2_sour wsX2_sour) := goodIn_app (goodIn_of _ (by decide +kernel)) ggX2_keyTold_X2_sour
set_option maxRecDepth 20000 in
theorem ggX2_keyTold_X2_place : GoodIn wsX2_keyTold wsX2_place := goodIn_r _ [33, 2, 3, 4, 5, 6, 7, 8, 9, 10, 11, 12, 13, 14, 15, 16, 17, 18, 19, 20, 21, 22, 23, 24, 25, 26, 27, 28, 29, 34, 35, 36, 37, 38, 39, 40] (by decide +kernel) (by decide +kernel)
set_option maxRecDepth 20000 in
theorem gX2_keyTold_X2_place : GoodIn wsX2_keyTold (wsV RX2 121 RX2 yX2_place wsX2_place) := goodIn_app (goodIn_of _ (by decide +kernel)) ggX2_keyTold_X2_place
theorem dX2_keyTold_0 : decode cX2_keyTold 0 = .ok (.iload_n 2, 1) := by decide +kernel
theorem dX2_keyTold_1 : decode cX2_keyTold 1 = .ok (.ifCond .ne 12, 3) := by decide +kernel
theorem dX2_keyTold_4 : decode cX2_keyTold 4 = .ok (.aload_n 0, 1) := by decide +kernel
theorem dX2_keyTold_5 : decode cX2_keyTold 5 = .ok (.getfield 20, 3) := by decide +kernel
theorem dX2_keyTold_8 : decode cX2_keyTold 8 = .ok (.iload_n 1, 1) := by decide +kernel
theorem dX2_keyTold_9 : decode cX2_keyTold 9 = .ok (.iaload, 1) := by decide +kernel
theorem dX2_keyTold_10 : decode cX2_keyTold 10 = .ok (.goto 41, 3) := by decide +kernel
theorem dX2_keyTold_13 : decode cX2_keyTold 13 = .ok (.iload_n 2, 1) := by decide +kernel
theorem dX2_keyTold_14 : decode cX2_keyTold 14 = .ok (.iconst 1, 1) := by decide +kernel
theorem dX2_keyTold_15 : decode cX2_keyTold 15 = .ok (.if_icmp .ne 11, 3) := by decide +kernel
theorem dX2_keyTold_18 : decode cX2_keyTold 18 = .ok (.aload_n 0, 1) := by decide +kernel
theorem dX2_keyTold_19 : decode cX2_keyTold 19 = .ok (.iload_n 1, 1) := by decide +kernel
theorem dX2_keyTold_20 : decode cX2_keyTold 20 = .ok (.invokevirtual 68, 3) := by decide +kernel
theorem dX2_keyTold_23 : decode cX2_keyTold 23 = .ok (.goto 28, 3) := by decide +kernel
theorem dX2_keyTold_26 : decode cX2_keyTold 26 = .ok (.iload_n 2, 1) := by decide +kernel
theorem dX2_keyTold_27 : decode cX2_keyTold 27 = .ok (.iconst 2, 1) := by decide +kernel
theorem dX2_keyTold_28 : decode cX2_keyTold 28 = .ok (.if_icmp .ne 18, 3) := by decide +kernel
theorem dX2_keyTold_31 : decode cX2_keyTold 31 = .ok (.aload_n 0, 1) := by decide +kernel
theorem dX2_keyTold_32 : decode cX2_keyTold 32 = .ok (.getfield 20, 3) := by decide +kernel
theorem dX2_keyTold_35 : decode cX2_keyTold 35 = .ok (.iload_n 1, 1) := by decide +kernel
theorem dX2_keyTold_36 : decode cX2_keyTold 36 = .ok (.iaload, 1) := by decide +kernel
theorem dX2_keyTold_37 : decode cX2_keyTold 37 = .ok (.aload_n 0, 1) := by decide +kernel
theorem dX2_keyTold_38 : decode cX2_keyTold 38 = .ok (.iload_n 1, 1) := by decide +kernel
theorem dX2_keyTold_39 : decode cX2_keyTold 39 = .ok (.invokevirtual 68, 3) := by decide +kernel
theorem dX2_keyTold_42 : decode cX2_keyTold 42 = .ok (.imul, 1) := by decide +kernel
theorem dX2_keyTold_43 : decode cX2_keyTold 43 = .ok (.goto 8, 3) := by decide +kernel
theorem dX2_keyTold_46 : decode cX2_keyTold 46 = .ok (.aload_n 0, 1) := by decide +kernel
theorem dX2_keyTold_47 : decode cX2_keyTold 47 = .ok (.iload_n 1, 1) := by decide +kernel
theorem dX2_keyTold_48 : decode cX2_keyTold 48 = .ok (.invokevirtual 121, 3) := by decide +kernel
theorem dX2_keyTold_51 : decode cX2_keyTold 51 = .ok (.ireturn, 1) := by decide +kernel
set_option maxRecDepth 20000 in
theorem ggX2_key_X2_isOne : GoodIn wsX2_key wsX2_isOne := goodIn_r _ [5, 6, 7, 4, 8] (by decide +kernel) (by decide +kernel)
set_option maxRecDepth 20000 in
theorem gX2_key_X2_isOne : GoodIn wsX2_key (va_wsS RX2 74 yX2_isOne wsX2_isOne) := goodIn_app (goodIn_of _ (by decide +kernel)) ggX2_key_X2_isOne
set_option maxRecDepth 20000 in
theorem ggX2_key_X2_isIn : GoodIn wsX2_key wsX2_isIn := goodIn_r _ [8] (by decide +kernel) (by decide +kernel)
set_option maxRecDepth 20000 in
theorem gX2_key_X2_isIn : GoodIn wsX2_key (va_wsS RX2 29 yX2_isIn wsX2_isIn) := goodIn_app (goodIn_of _ (by decide +kernel)) ggX2_key_X2_isIn
set_option maxRecDepth 20000 in
theorem ggX2_key_X2_keyTold : GoodIn wsX2_key wsX2_keyTold := goodIn_r _ [12, 13, 14, 15, 16, 4, 17, 18, 19, 20, 21, 22, 23, 24, 25, 26, 27, 28, 29, 30, 31, 32, 33, 34, 35, 36, 37, 38, 39, 40, 41, 42, 43, 44, 49, 50, 51, 52, 53, 54, 55] (by decide +kernel) (by decide +kernel)
set_option maxRecDepth 20000 in
theorem gX2_key_X2_keyTold : GoodIn wsX2_key (wsV RX2 124 RX2 yX2_keyTold wsX2_keyTold) := goodIn_app (goodIn_of _ (by decide +kernel)) ggX2_key_X2_keyTold
set_option maxRecDepth 20000 in
theorem ggX2_key_X2_no : GoodIn wsX2_key wsX2_no := goodIn_r _ [48, 1, 49, 50, 51, 52, 53, 54, 55] (by decide +kernel) (by decide +kernel)
set_option maxRecDepth 20000 in
theorem gX2_key_X2_no : GoodIn wsX2_key (wsV RX2 78 RX2 yX2_no wsX2_no) := goodIn_app (goodIn_of _ (by decide +kernel)) ggX2_key_X2_no
theorem dX2_key_0 : decode cX2_key 0 = .ok (.aload_n 0, 1) := by decide +kernel
theorem dX2_key_1 : decode cX2_key 1 = .ok (.iconst 0, 1) := by decide +kernel
theorem dX2_key_2 : decode cX2_key 2 = .ok (.putfield 26, 3) := by decide +kernel
theorem dX2_key_5 : decode cX2_key 5 = .ok (.iload_n 1, 1) := by decide +kernel
theorem dX2_key_6 : decode cX2_key 6 = .ok (.invokestatic 74, 3) := by decide +kernel
theorem dX2_key_9 : decode cX2_key 9 = .ok (.ifCond .eq 21, 3) := by decide +kernel
theorem dX2_key_12 : decode cX2_key 12 = .ok (.iload_n 2, 1) := by decide +kernel
theorem dX2_key_13 : decode cX2_key 13 = .ok (.iconst 0, 1) := by decide +kernel
theorem dX2_key_14 : decode cX2_key 14 = .ok (.iconst 3, 1) := by decide +kernel
theorem dX2_key_15 : decode cX2_key 15 = .ok (.invokestatic 29, 3) := by decide +kernel
theorem dX2_key_18 : decode cX2_key 18 = .ok (.ifCond .eq 12, 3) := by decide +kernel
theorem dX2_key_21 : decode cX2_key 21 = .ok (.aload_n 0, 1) := by decide +kernel
theorem dX2_key_22 : decode cX2_key 22 = .ok (.iload_n 1, 1) := by decide +kernel
theorem dX2_key_23 : decode cX2_key 23 = .ok (.iload_n 2, 1) := by decide +kernel
theorem dX2_key_24 : decode cX2_key 24 = .ok (.invokevirtual 124, 3) := by decide +kernel
theorem dX2_key_27 : decode cX2_key 27 = .ok (.goto 8, 3) := by decide +kernel
theorem dX2_key_30 : decode cX2_key 30 = .ok (.aload_n 0, 1) := by decide +kernel
theorem dX2_key_31 : decode cX2_key 31 = .ok (.iconst 1, 1) := by decide +kernel
theorem dX2_key_32 : decode cX2_key 32 = .ok (.invokevirtual 78, 3) := by decide +kernel
theorem dX2_key_35 : decode cX2_key 35 = .ok (.ireturn, 1) := by decide +kernel
set_option maxRecDepth 20000 in
theorem ggX2_counted_X2_costs : GoodIn wsX2_counted wsX2_costs := goodIn_r _ [15, 16, 17, 18, 19, 14, 20, 3, 4, 5, 6, 21, 22, 23, 24, 25, 26, 27, 28, 29, 30, 31, 32, 10, 33, 34, 35, 36, 2, 37, 53, 54, 55, 56, 57, 58, 59] (by decide +kernel) (by decide +kernel)
set_option maxRecDepth 20000 in
theorem gX2_counted_X2_costs : GoodIn wsX2_counted (wsV RX2 127 RX2 yX2_costs wsX2_costs) := goodIn_app (goodIn_of _ (by decide +kernel)) ggX2_counted_X2_costs
set_option maxRecDepth 20000 in
theorem ggX2_counted_X2_majorOff : GoodIn wsX2_counted wsX2_majorOff := goodIn_r _ [24, 25, 26, 27, 14, 28, 29, 30, 31, 32, 10, 33, 34, 35, 36, 2, 37, 53, 54, 55, 56, 57, 58, 59] (by decide +kernel) (by decide +kernel)
set_option maxRecDepth 20000 in
theorem gX2_counted_X2_majorOff : GoodIn wsX2_counted (wsV RX2 65 RX2 yX2_majorOff wsX2_majorOff) := goodIn_app (goodIn_of _ (by decide +kernel)) ggX2_counted_X2_majorOff
set_option maxRecDepth 20000 in
theorem ggX2_counted_X2_narrow : GoodIn wsX2_counted wsX2_narrow := goodIn_r _ [28, 29, 30, 31, 14, 32, 10, 33, 34, 35, 36, 2, 37, 53, 54, 55, 56, 57, 58, 59] (by decide +kernel) (by decide +kernel)
set_option maxRecDepth 20000 in
theorem gX2_counted_X2_narrow : GoodIn wsX2_counted (wsV RX2 49 RX2 yX2_narrow wsX2_narrow) := goodIn_app (goodIn_of _ (by decide +kernel)) ggX2_counted_X2_narrow
set_option maxRecDepth 20000 in
theorem ggX2_counted_X2_fastest : GoodIn wsX2_counted wsX2_fastest := goodIn_r _ [41, 2, 7, 8, 5, 9, 42, 43, 44, 14, 45, 25, 26, 27, 28, 29, 30, 31, 32, 10, 33, 34, 35, 36, 37, 46, 47, 48, 49, 3, 4, 6, 50, 51, 52, 53, 54, 55, 56, 57, 58, 59] (by decide +kernel) (by decide +kernel)
set_option maxRecDepth 20000 in
theorem gX2_counted_X2_fastest : GoodIn wsX2_counted (wsV RX2 131 RX2 yX2_fastest wsX2_fastest) := goodIn_app (goodIn_of _ (by decide +kernel)) ggX2_counted_X2_fastest
theorem dX2_counted_0 : decode cX2_counted 0 = .ok (.iconst 0, 1) := by decide +kernel
theorem dX2_counted_1 : decode cX2_counted 1 = .ok (.istore_n 2, 1) := by decide +kernel
theorem dX2_counted_2 : decode cX2_counted 2 = .ok (.iload_n 1, 1) := by decide +kernel
theorem dX2_counted_3 : decode cX2_counted 3 = .ok (.tableswitch 155 0 5 #[37, 42, 47, 52, 81, 114], 37) := by decide +kernel
theorem dX2_counted_40 : decode cX2_counted 40 = .ok (.aload_n 0, 1) := by decide +kernel
theorem dX2_counted_41 : decode cX2_counted 41 = .ok (.getfield 97, 3) := by decide +kernel
theorem dX2_counted_44 : decode cX2_counted 44 = .ok (.ireturn, 1) := by decide +kernel
theorem dX2_counted_45 : decode cX2_counted 45 = .ok (.aload_n 0, 1) := by decide +kernel
theorem dX2_counted_46 : decode cX2_counted 46 = .ok (.getfield 7, 3) := by decide +kernel
theorem dX2_counted_49 : decode cX2_counted 49 = .ok (.ireturn, 1) := by decide +kernel
theorem dX2_counted_50 : decode cX2_counted 50 = .ok (.aload_n 0, 1) := by decide +kernel
theorem dX2_counted_51 : decode cX2_counted 51 = .ok (.invokevirtual 127, 3) := by decide +kernel
theorem dX2_counted_54 : decode cX2_counted 54 = .ok (.ireturn, 1) := by decide +kernel
theorem dX2_counted_55 : decode cX2_counted 55 = .ok (.iconst 0, 1) := by decide +kernel
theorem dX2_counted_56 : decode cX2_counted 56 = .ok (.istore_n 3, 1) := by decide +kernel
theorem dX2_counted_57 : decode cX2_counted 57 = .ok (.iload_n 3, 1) := by decide +kernel
theorem dX2_counted_58 : decode cX2_counted 58 = .ok (.bipush 12, 2) := by decide +kernel
theorem dX2_counted_60 : decode cX2_counted 60 = .ok (.if_icmp .ge 22, 3) := by decide +kernel
theorem dX2_counted_63 : decode cX2_counted 63 = .ok (.iload_n 2, 1) := by decide +kernel
theorem dX2_counted_64 : decode cX2_counted 64 = .ok (.aload_n 0, 1) := by decide +kernel
theorem dX2_counted_65 : decode cX2_counted 65 = .ok (.iload_n 3, 1) := by decide +kernel
theorem dX2_counted_66 : decode cX2_counted 66 = .ok (.invokevirtual 65, 3) := by decide +kernel
theorem dX2_counted_69 : decode cX2_counted 69 = .ok (.invokestatic 58, 3) := by decide +kernel
theorem dX2_counted_72 : decode cX2_counted 72 = .ok (.invokestatic 39, 3) := by decide +kernel
theorem dX2_counted_75 : decode cX2_counted 75 = .ok (.istore_n 2, 1) := by decide +kernel
theorem dX2_counted_76 : decode cX2_counted 76 = .ok (.iinc 3 1, 3) := by decide +kernel
theorem dX2_counted_79 : decode cX2_counted 79 = .ok (.goto (-22), 3) := by decide +kernel
theorem dX2_counted_82 : decode cX2_counted 82 = .ok (.iload_n 2, 1) := by decide +kernel
theorem dX2_counted_83 : decode cX2_counted 83 = .ok (.ireturn, 1) := by decide +kernel
theorem dX2_counted_84 : decode cX2_counted 84 = .ok (.iconst 0, 1) := by decide +kernel
theorem dX2_counted_85 : decode cX2_counted 85 = .ok (.istore_n 3, 1) := by decide +kernel
theorem dX2_counted_86 : decode cX2_counted 86 = .ok (.iload_n 3, 1) := by decide +kernel
theorem dX2_counted_87 : decode cX2_counted 87 = .ok (.bipush 12, 2) := by decide +kernel
theorem dX2_counted_89 : decode cX2_counted 89 = .ok (.if_icmp .ge 26, 3) := by decide +kernel
theorem dX2_counted_92 : decode cX2_counted 92 = .ok (.iload_n 2, 1) := by decide +kernel
theorem dX2_counted_93 : decode cX2_counted 93 = .ok (.aload_n 0, 1) := by decide +kernel
theorem dX2_counted_94 : decode cX2_counted 94 = .ok (.iload_n 3, 1) := by decide +kernel
theorem dX2_counted_95 : decode cX2_counted 95 = .ok (.iconst 1, 1) := by decide +kernel
theorem dX2_counted_96 : decode cX2_counted 96 = .ok (.invokevirtual 49, 3) := by decide +kernel
theorem dX2_counted_99 : decode cX2_counted 99 = .ok (.ifCond .ne 7, 3) := by decide +kernel
theorem dX2_counted_102 : decode cX2_counted 102 = .ok (.iconst 1, 1) := by decide +kernel
theorem dX2_counted_103 : decode cX2_counted 103 = .ok (.goto 4, 3) := by decide +kernel
theorem dX2_counted_106 : decode cX2_counted 106 = .ok (.iconst 0, 1) := by decide +kernel
theorem dX2_counted_107 : decode cX2_counted 107 = .ok (.iadd, 1) := by decide +kernel
theorem dX2_counted_108 : decode cX2_counted 108 = .ok (.istore_n 2, 1) := by decide +kernel
theorem dX2_counted_109 : decode cX2_counted 109 = .ok (.iinc 3 1, 3) := by decide +kernel
theorem dX2_counted_112 : decode cX2_counted 112 = .ok (.goto (-26), 3) := by decide +kernel
theorem dX2_counted_115 : decode cX2_counted 115 = .ok (.iload_n 2, 1) := by decide +kernel
theorem dX2_counted_116 : decode cX2_counted 116 = .ok (.ireturn, 1) := by decide +kernel
theorem dX2_counted_117 : decode cX2_counted 117 = .ok (.aload_n 0, 1) := by decide +kernel
theorem dX2_counted_118 : decode cX2_counted 118 = .ok (.getfield 23, 3) := by decide +kernel
theorem dX2_counted_121 : decode cX2_counted 121 = .ok (.astore_n 3, 1) := by decide +kernel
theorem dX2_counted_122 : decode cX2_counted 122 = .ok (.aload_n 3, 1) := by decide +kernel
theorem dX2_counted_123 : decode cX2_counted 123 = .ok (.arraylength, 1) := by decide +kernel
theorem dX2_counted_124 : decode cX2_counted 124 = .ok (.istore 4, 2) := by decide +kernel
theorem dX2_counted_126 : decode cX2_counted 126 = .ok (.iconst 0, 1) := by decide +kernel
theorem dX2_counted_127 : decode cX2_counted 127 = .ok (.istore 5, 2) := by decide +kernel
theorem dX2_counted_129 : decode cX2_counted 129 = .ok (.iload 5, 2) := by decide +kernel
theorem dX2_counted_131 : decode cX2_counted 131 = .ok (.iload 4, 2) := by decide +kernel
theorem dX2_counted_133 : decode cX2_counted 133 = .ok (.if_icmp .ge 23, 3) := by decide +kernel
theorem dX2_counted_136 : decode cX2_counted 136 = .ok (.aload_n 3, 1) := by decide +kernel
theorem dX2_counted_137 : decode cX2_counted 137 = .ok (.iload 5, 2) := by decide +kernel
theorem dX2_counted_139 : decode cX2_counted 139 = .ok (.iaload, 1) := by decide +kernel
theorem dX2_counted_140 : decode cX2_counted 140 = .ok (.istore 6, 2) := by decide +kernel
theorem dX2_counted_142 : decode cX2_counted 142 = .ok (.iload_n 2, 1) := by decide +kernel
theorem dX2_counted_143 : decode cX2_counted 143 = .ok (.iload 6, 2) := by decide +kernel
theorem dX2_counted_145 : decode cX2_counted 145 = .ok (.invokestatic 58, 3) := by decide +kernel
theorem dX2_counted_148 : decode cX2_counted 148 = .ok (.iadd, 1) := by decide +kernel
theorem dX2_counted_149 : decode cX2_counted 149 = .ok (.istore_n 2, 1) := by decide +kernel
theorem dX2_counted_150 : decode cX2_counted 150 = .ok (.iinc 5 1, 3) := by decide +kernel
theorem dX2_counted_153 : decode cX2_counted 153 = .ok (.goto (-24), 3) := by decide +kernel
theorem dX2_counted_156 : decode cX2_counted 156 = .ok (.iload_n 2, 1) := by decide +kernel
theorem dX2_counted_157 : decode cX2_counted 157 = .ok (.ireturn, 1) := by decide +kernel
theorem dX2_counted_158 : decode cX2_counted 158 = .ok (.aload_n 0, 1) := by decide +kernel
theorem dX2_counted_159 : decode cX2_counted 159 = .ok (.invokevirtual 131, 3) := by decide +kernel
theorem dX2_counted_162 : decode cX2_counted 162 = .ok (.ireturn, 1) := by decide +kernel
set_option maxRecDepth 20000 in
theorem ggX2_count_X2_isIn : GoodIn wsX2_count wsX2_isIn := goodIn_r _ [5] (by decide +kernel) (by decide +kernel)
set_option maxRecDepth 20000 in
theorem gX2_count_X2_isIn : GoodIn wsX2_count (va_wsS RX2 29 yX2_isIn wsX2_isIn) := goodIn_app (goodIn_of _ (by decide +kernel)) ggX2_count_X2_isIn
set_option maxRecDepth 20000 in
theorem ggX2_count_X2_counted : GoodIn wsX2_count wsX2_counted := goodIn_r _ [9, 10, 11, 12, 13, 14, 15, 16, 17, 18, 19, 20, 21, 22, 4, 23, 24, 25, 26, 27, 28, 29, 30, 31, 32, 33, 34, 35, 36, 37, 38, 39, 40, 41, 42, 43, 44, 45, 46, 47, 48, 49, 50, 51, 52, 53, 54, 55, 56, 57, 58, 59, 60, 65, 66, 67, 68, 69, 70, 71] (by decide +kernel) (by decide +kernel)
set_option maxRecDepth 20000 in
theorem gX2_count_X2_counted : GoodIn wsX2_count (wsV RX2 134 RX2 yX2_counted wsX2_counted) := goodIn_app (goodIn_of _ (by decide +kernel)) ggX2_count_X2_counted
set_option maxRecDepth 20000 in
theorem ggX2_count_X2_no : GoodIn wsX2_count wsX2_no := goodIn_r _ [64, 1, 65, 66, 67, 68, 69, 70, 71] (by decide +kernel) (by decide +kernel)
set_option maxRecDepth 20000 in
theorem gX2_count_X2_no : GoodIn wsX2_count (wsV RX2 78 RX2 yX2_no wsX2_no) := goodIn_app (goodIn_of _ (by decide +kernel)) ggX2_count_X2_no
end
section
theorem dX2_count_0 : decode cX2_count 0 = .ok (.aload_n 0, 1) := by decide +kernel
theorem dX2_count_1 : decode cX2_count 1 = .ok (.iconst 0, 1) := by decide +kernel
theorem dX2_count_2 : decode cX2_count 2 = .ok (.putfield 26, 3) := by decide +kernel
theorem dX2_count_5 : decode cX2_count 5 = .ok (.iload_n 1, 1) := by decide +kernel
theorem dX2_count_6 : decode cX2_count 6 = .ok (.iconst 0, 1) := by decide +kernel
theorem dX2_count_7 : decode cX2_count 7 = .ok (.bipush 6, 2) := by decide +kernel
theorem dX2_count_9 : decode cX2_count 9 = .ok (.invokestatic 29, 3) := by decide +kernel
theorem dX2_count_12 : decode cX2_count 12 = .ok (.ifCond .eq 11, 3) := by decide +kernel
theorem dX2_count_15 : decode cX2_count 15 = .ok (.aload_n 0, 1) := by decide +kernel
theorem dX2_count_16 : decode cX2_count 16 = .ok (.iload_n 1, 1) := by decide +kernel
theorem dX2_count_17 : decode cX2_count 17 = .ok (.invokevirtual 134, 3) := by decide +kernel
theorem dX2_count_20 : decode cX2_count 20 = .ok (.goto 8, 3) := by decide +kernel
theorem dX2_count_23 : decode cX2_count 23 = .ok (.aload_n 0, 1) := by decide +kernel
theorem dX2_count_24 : decode cX2_count 24 = .ok (.iconst 1, 1) := by decide +kernel
theorem dX2_count_25 : decode cX2_count 25 = .ok (.invokevirtual 78, 3) := by decide +kernel
theorem dX2_count_28 : decode cX2_count 28 = .ok (.ireturn, 1) := by decide +kernel
theorem dX2_copyOf_0 : decode cX2_copyOf 0 = .ok (.bipush 12, 2) := by decide +kernel
theorem dX2_copyOf_2 : decode cX2_copyOf 2 = .ok (.newarray .int, 2) := by decide +kernel
theorem dX2_copyOf_4 : decode cX2_copyOf 4 = .ok (.astore_n 2, 1) := by decide +kernel
theorem dX2_copyOf_5 : decode cX2_copyOf 5 = .ok (.aload_n 1, 1) := by decide +kernel
theorem dX2_copyOf_6 : decode cX2_copyOf 6 = .ok (.iconst 0, 1) := by decide +kernel
theorem dX2_copyOf_7 : decode cX2_copyOf 7 = .ok (.aload_n 2, 1) := by decide +kernel
theorem dX2_copyOf_8 : decode cX2_copyOf 8 = .ok (.iconst 0, 1) := by decide +kernel
theorem dX2_copyOf_9 : decode cX2_copyOf 9 = .ok (.bipush 12, 2) := by decide +kernel
theorem dX2_copyOf_11 : decode cX2_copyOf 11 = .ok (.invokestatic 137, 3) := by decide +kernel
theorem dX2_copyOf_14 : decode cX2_copyOf 14 = .ok (.aload_n 2, 1) := by decide +kernel
theorem dX2_copyOf_15 : decode cX2_copyOf 15 = .ok (.areturn, 1) := by decide +kernel
set_option maxRecDepth 20000 in
theorem ggX2_foresee_X2_isIn : GoodIn wsX2_foresee wsX2_isIn := goodIn_r _ [7] (by decide +kernel) (by decide +kernel)
set_option maxRecDepth 20000 in
theorem gX2_foresee_X2_isIn : GoodIn wsX2_foresee (va_wsS RX2 29 yX2_isIn wsX2_isIn) := goodIn_app (goodIn_of _ (by decide +kernel)) ggX2_foresee_X2_isIn
set_option maxRecDepth 20000 in
theorem ggX2_foresee_X2_no : GoodIn wsX2_foresee wsX2_no := goodIn_r _ [11, 1, 85, 86, 87, 88, 89, 90, 91] (by decide +kernel) (by decide +kernel)
set_option maxRecDepth 20000 in
theorem gX2_foresee_X2_no : GoodIn wsX2_foresee (wsV RX2 78 RX2 yX2_no wsX2_no) := goodIn_app (goodIn_of _ (by decide +kernel)) ggX2_foresee_X2_no
set_option maxRecDepth 20000 in
theorem ggX2_foresee_X2_copyOf : GoodIn wsX2_foresee wsX2_copyOf := goodIn_r _ [15, 16, 17, 18, 19, 20] (by decide +kernel) (by decide +kernel)
set_option maxRecDepth 20000 in
theorem gX2_foresee_X2_copyOf : GoodIn wsX2_foresee (wsV RX2 143 RX2 yX2_copyOf wsX2_copyOf) := goodIn_app (goodIn_of _ (by decide +kernel)) ggX2_foresee_X2_copyOf
set_option maxRecDepth 20000 in
theorem ggX2_foresee_X2_pass : GoodIn wsX2_foresee wsX2_pass := goodIn_r _ [24, 2, 25, 3, 26, 27, 6, 28, 29, 30, 31, 32, 33, 34, 35, 85, 86, 87, 88, 89, 90, 91] (by decide +kernel) (by decide +kernel)
set_option maxRecDepth 20000 in
theorem gX2_foresee_X2_pass : GoodIn wsX2_foresee (wsV RX2 100 RX2 yX2_pass wsX2_pass) := goodIn_app (goodIn_of _ (by decide +kernel)) ggX2_foresee_X2_pass
set_option maxRecDepth 20000 in
theorem ggX2_foresee_X2_counted : GoodIn wsX2_foresee wsX2_counted := goodIn_r _ [39, 3, 40, 41, 42, 31, 43, 33, 34, 35, 2, 44, 45, 46, 6, 47, 48, 49, 50, 51, 52, 53, 54, 55, 56, 57, 58, 59, 60, 61, 62, 63, 64, 65, 66, 67, 68, 69, 70, 71, 72, 73, 74, 75, 76, 77, 78, 79, 80, 81, 82, 83, 84, 85, 86, 87, 88, 89, 90, 91] (by decide +kernel) (by decide +kernel)
set_option maxRecDepth 20000 in
theorem gX2_foresee_X2_counted : GoodIn wsX2_foresee (wsV RX2 134 RX2 yX2_counted wsX2_counted) := goodIn_app (goodIn_of _ (by decide +kernel)) ggX2_foresee_X2_counted
theorem dX2_foresee_0 : decode cX2_foresee 0 = .ok (.aload_n 0, 1) := by decide +kernel
theorem dX2_foresee_1 : decode cX2_foresee 1 = .ok (.iconst 0, 1) := by decide +kernel
theorem dX2_foresee_2 : decode cX2_foresee 2 = .ok (.putfield 26, 3) := by decide +kernel
theorem dX2_foresee_5 : decode cX2_foresee 5 = .ok (.iload_n 1, 1) := by decide +kernel
theorem dX2_foresee_6 : decode cX2_foresee 6 = .ok (.iconst 1, 1) := by decide +kernel
theorem dX2_foresee_7 : decode cX2_foresee 7 = .ok (.bipush 100, 2) := by decide +kernel
theorem dX2_foresee_9 : decode cX2_foresee 9 = .ok (.invokestatic 29, 3) := by decide +kernel
theorem dX2_foresee_12 : decode cX2_foresee 12 = .ok (.ifCond .ne 9, 3) := by decide +kernel
theorem dX2_foresee_15 : decode cX2_foresee 15 = .ok (.aload_n 0, 1) := by decide +kernel
theorem dX2_foresee_16 : decode cX2_foresee 16 = .ok (.iconst 1, 1) := by decide +kernel
theorem dX2_foresee_17 : decode cX2_foresee 17 = .ok (.invokevirtual 78, 3) := by decide +kernel
theorem dX2_foresee_20 : decode cX2_foresee 20 = .ok (.ireturn, 1) := by decide +kernel
theorem dX2_foresee_21 : decode cX2_foresee 21 = .ok (.iload_n 2, 1) := by decide +kernel
theorem dX2_foresee_22 : decode cX2_foresee 22 = .ok (.iconst 2, 1) := by decide +kernel
theorem dX2_foresee_23 : decode cX2_foresee 23 = .ok (.bipush 6, 2) := by decide +kernel
theorem dX2_foresee_25 : decode cX2_foresee 25 = .ok (.invokestatic 29, 3) := by decide +kernel
theorem dX2_foresee_28 : decode cX2_foresee 28 = .ok (.ifCond .ne 9, 3) := by decide +kernel
theorem dX2_foresee_31 : decode cX2_foresee 31 = .ok (.aload_n 0, 1) := by decide +kernel
theorem dX2_foresee_32 : decode cX2_foresee 32 = .ok (.iconst 2, 1) := by decide +kernel
theorem dX2_foresee_33 : decode cX2_foresee 33 = .ok (.invokevirtual 78, 3) := by decide +kernel
theorem dX2_foresee_36 : decode cX2_foresee 36 = .ok (.ireturn, 1) := by decide +kernel
theorem dX2_foresee_37 : decode cX2_foresee 37 = .ok (.aload_n 0, 1) := by decide +kernel
theorem dX2_foresee_38 : decode cX2_foresee 38 = .ok (.aload_n 0, 1) := by decide +kernel
theorem dX2_foresee_39 : decode cX2_foresee 39 = .ok (.getfield 23, 3) := by decide +kernel
theorem dX2_foresee_42 : decode cX2_foresee 42 = .ok (.invokevirtual 143, 3) := by decide +kernel
theorem dX2_foresee_45 : decode cX2_foresee 45 = .ok (.astore_n 3, 1) := by decide +kernel
theorem dX2_foresee_46 : decode cX2_foresee 46 = .ok (.aload_n 0, 1) := by decide +kernel
theorem dX2_foresee_47 : decode cX2_foresee 47 = .ok (.getfield 97, 3) := by decide +kernel
theorem dX2_foresee_50 : decode cX2_foresee 50 = .ok (.istore 4, 2) := by decide +kernel
theorem dX2_foresee_52 : decode cX2_foresee 52 = .ok (.iconst 0, 1) := by decide +kernel
theorem dX2_foresee_53 : decode cX2_foresee 53 = .ok (.istore 5, 2) := by decide +kernel
theorem dX2_foresee_55 : decode cX2_foresee 55 = .ok (.iload 5, 2) := by decide +kernel
theorem dX2_foresee_57 : decode cX2_foresee 57 = .ok (.iload_n 1, 1) := by decide +kernel
theorem dX2_foresee_58 : decode cX2_foresee 58 = .ok (.if_icmp .ge 13, 3) := by decide +kernel
theorem dX2_foresee_61 : decode cX2_foresee 61 = .ok (.aload_n 0, 1) := by decide +kernel
theorem dX2_foresee_62 : decode cX2_foresee 62 = .ok (.invokevirtual 100, 3) := by decide +kernel
theorem dX2_foresee_65 : decode cX2_foresee 65 = .ok (.iinc 5 1, 3) := by decide +kernel
theorem dX2_foresee_68 : decode cX2_foresee 68 = .ok (.goto (-13), 3) := by decide +kernel
theorem dX2_foresee_71 : decode cX2_foresee 71 = .ok (.aload_n 0, 1) := by decide +kernel
theorem dX2_foresee_72 : decode cX2_foresee 72 = .ok (.iload_n 2, 1) := by decide +kernel
theorem dX2_foresee_73 : decode cX2_foresee 73 = .ok (.invokevirtual 134, 3) := by decide +kernel
theorem dX2_foresee_76 : decode cX2_foresee 76 = .ok (.istore 5, 2) := by decide +kernel
theorem dX2_foresee_78 : decode cX2_foresee 78 = .ok (.aload_n 0, 1) := by decide +kernel
theorem dX2_foresee_79 : decode cX2_foresee 79 = .ok (.aload_n 3, 1) := by decide +kernel
theorem dX2_foresee_80 : decode cX2_foresee 80 = .ok (.putfield 23, 3) := by decide +kernel
theorem dX2_foresee_83 : decode cX2_foresee 83 = .ok (.aload_n 0, 1) := by decide +kernel
theorem dX2_foresee_84 : decode cX2_foresee 84 = .ok (.iload 4, 2) := by decide +kernel
theorem dX2_foresee_86 : decode cX2_foresee 86 = .ok (.putfield 97, 3) := by decide +kernel
theorem dX2_foresee_89 : decode cX2_foresee 89 = .ok (.iload 5, 2) := by decide +kernel
theorem dX2_foresee_91 : decode cX2_foresee 91 = .ok (.ireturn, 1) := by decide +kernel
set_option maxRecDepth 20000 in
theorem ggX2_until_X2_isIn : GoodIn wsX2_until wsX2_isIn := goodIn_r _ [7] (by decide +kernel) (by decide +kernel)
set_option maxRecDepth 20000 in
theorem gX2_until_X2_isIn : GoodIn wsX2_until (va_wsS RX2 29 yX2_isIn wsX2_isIn) := goodIn_app (goodIn_of _ (by decide +kernel)) ggX2_until_X2_isIn
set_option maxRecDepth 20000 in
theorem ggX2_until_X2_no : GoodIn wsX2_until wsX2_no := goodIn_r _ [11, 1, 68, 69, 70, 71, 72, 73, 74] (by decide +kernel) (by decide +kernel)
set_option maxRecDepth 20000 in
theorem gX2_until_X2_no : GoodIn wsX2_until (wsV RX2 78 RX2 yX2_no wsX2_no) := goodIn_app (goodIn_of _ (by decide +kernel)) ggX2_until_X2_no
set_option maxRecDepth 20000 in
theorem ggX2_until_X2_copyOf : GoodIn wsX2_until wsX2_copyOf := goodIn_r _ [15, 16, 17, 18, 19, 20] (by decide +kernel) (by decide +kernel)
set_option maxRecDepth 20000 in
theorem gX2_until_X2_copyOf : GoodIn wsX2_until (wsV RX2 143 RX2 yX2_copyOf wsX2_copyOf) := goodIn_app (goodIn_of _ (by decide +kernel)) ggX2_until_X2_copyOf
set_option maxRecDepth 20000 in
theorem ggX2_until_X2_fastest : GoodIn wsX2_until wsX2_fastest := goodIn_r _ [24, 25, 26, 27, 28, 29, 30, 31, 32, 6, 33, 34, 35, 36, 37, 38, 39, 40, 41, 2, 42, 43, 44, 45, 46, 47, 48, 49, 50, 51, 52, 53, 54, 55, 56, 68, 69, 70, 71, 72, 73, 74] (by decide +kernel) (by decide +kernel)
set_option maxRecDepth 20000 in
theorem gX2_until_X2_fastest : GoodIn wsX2_until (wsV RX2 131 RX2 yX2_fastest wsX2_fastest) := goodIn_app (goodIn_of _ (by decide +kernel)) ggX2_until_X2_fastest
set_option maxRecDepth 20000 in
theorem ggX2_until_X2_pass : GoodIn wsX2_until wsX2_pass := goodIn_r _ [60, 2, 61, 3, 62, 63, 6, 64, 65, 66, 28, 67, 26, 27, 29, 68, 69, 70, 71, 72, 73, 74] (by decide +kernel) (by decide +kernel)
set_option maxRecDepth 20000 in
theorem gX2_until_X2_pass : GoodIn wsX2_until (wsV RX2 100 RX2 yX2_pass wsX2_pass) := goodIn_app (goodIn_of _ (by decide +kernel)) ggX2_until_X2_pass
theorem dX2_until_0 : decode cX2_until 0 = .ok (.aload_n 0, 1) := by decide +kernel
theorem dX2_until_1 : decode cX2_until 1 = .ok (.iconst 0, 1) := by decide +kernel
theorem dX2_until_2 : decode cX2_until 2 = .ok (.putfield 26, 3) := by decide +kernel
theorem dX2_until_5 : decode cX2_until 5 = .ok (.iload_n 1, 1) := by decide +kernel
theorem dX2_until_6 : decode cX2_until 6 = .ok (.iconst 1, 1) := by decide +kernel
theorem dX2_until_7 : decode cX2_until 7 = .ok (.sipush 9999, 3) := by decide +kernel
theorem dX2_until_10 : decode cX2_until 10 = .ok (.invokestatic 29, 3) := by decide +kernel
theorem dX2_until_13 : decode cX2_until 13 = .ok (.ifCond .ne 9, 3) := by decide +kernel
theorem dX2_until_16 : decode cX2_until 16 = .ok (.aload_n 0, 1) := by decide +kernel
theorem dX2_until_17 : decode cX2_until 17 = .ok (.iconst 1, 1) := by decide +kernel
theorem dX2_until_18 : decode cX2_until 18 = .ok (.invokevirtual 78, 3) := by decide +kernel
theorem dX2_until_21 : decode cX2_until 21 = .ok (.ireturn, 1) := by decide +kernel
theorem dX2_until_22 : decode cX2_until 22 = .ok (.aload_n 0, 1) := by decide +kernel
theorem dX2_until_23 : decode cX2_until 23 = .ok (.aload_n 0, 1) := by decide +kernel
theorem dX2_until_24 : decode cX2_until 24 = .ok (.getfield 23, 3) := by decide +kernel
theorem dX2_until_27 : decode cX2_until 27 = .ok (.invokevirtual 143, 3) := by decide +kernel
theorem dX2_until_30 : decode cX2_until 30 = .ok (.astore_n 2, 1) := by decide +kernel
theorem dX2_until_31 : decode cX2_until 31 = .ok (.aload_n 0, 1) := by decide +kernel
theorem dX2_until_32 : decode cX2_until 32 = .ok (.getfield 97, 3) := by decide +kernel
theorem dX2_until_35 : decode cX2_until 35 = .ok (.istore_n 3, 1) := by decide +kernel
theorem dX2_until_36 : decode cX2_until 36 = .ok (.iconst 0, 1) := by decide +kernel
theorem dX2_until_37 : decode cX2_until 37 = .ok (.istore 4, 2) := by decide +kernel
theorem dX2_until_39 : decode cX2_until 39 = .ok (.iload 4, 2) := by decide +kernel
theorem dX2_until_41 : decode cX2_until 41 = .ok (.sipush 200, 3) := by decide +kernel
theorem dX2_until_44 : decode cX2_until 44 = .ok (.if_icmp .gt 21, 3) := by decide +kernel
theorem dX2_until_47 : decode cX2_until 47 = .ok (.aload_n 0, 1) := by decide +kernel
theorem dX2_until_48 : decode cX2_until 48 = .ok (.invokevirtual 131, 3) := by decide +kernel
theorem dX2_until_51 : decode cX2_until 51 = .ok (.iload_n 1, 1) := by decide +kernel
theorem dX2_until_52 : decode cX2_until 52 = .ok (.if_icmp .ge 13, 3) := by decide +kernel
theorem dX2_until_55 : decode cX2_until 55 = .ok (.aload_n 0, 1) := by decide +kernel
theorem dX2_until_56 : decode cX2_until 56 = .ok (.invokevirtual 100, 3) := by decide +kernel
theorem dX2_until_59 : decode cX2_until 59 = .ok (.iinc 4 1, 3) := by decide +kernel
theorem dX2_until_62 : decode cX2_until 62 = .ok (.goto (-23), 3) := by decide +kernel
theorem dX2_until_65 : decode cX2_until 65 = .ok (.aload_n 0, 1) := by decide +kernel
theorem dX2_until_66 : decode cX2_until 66 = .ok (.aload_n 2, 1) := by decide +kernel
theorem dX2_until_67 : decode cX2_until 67 = .ok (.putfield 23, 3) := by decide +kernel
theorem dX2_until_70 : decode cX2_until 70 = .ok (.aload_n 0, 1) := by decide +kernel
theorem dX2_until_71 : decode cX2_until 71 = .ok (.iload_n 3, 1) := by decide +kernel
theorem dX2_until_72 : decode cX2_until 72 = .ok (.putfield 97, 3) := by decide +kernel
theorem dX2_until_75 : decode cX2_until 75 = .ok (.iload 4, 2) := by decide +kernel
theorem dX2_until_77 : decode cX2_until 77 = .ok (.sipush 200, 3) := by decide +kernel
theorem dX2_until_80 : decode cX2_until 80 = .ok (.if_icmp .le 7, 3) := by decide +kernel
theorem dX2_until_83 : decode cX2_until 83 = .ok (.iconst (-1), 1) := by decide +kernel
theorem dX2_until_84 : decode cX2_until 84 = .ok (.goto 5, 3) := by decide +kernel
theorem dX2_until_87 : decode cX2_until 87 = .ok (.iload 4, 2) := by decide +kernel
theorem dX2_until_89 : decode cX2_until 89 = .ok (.ireturn, 1) := by decide +kernel
set_option maxRecDepth 20000 in
theorem ggX2_advise_X2_shiftTo : GoodIn wsX2_advise wsX2_shiftTo := goodIn_r _ [7, 8, 2, 9, 10, 11, 6, 12, 39, 40, 41, 42, 43, 44, 45] (by decide +kernel) (by decide +kernel)
set_option maxRecDepth 20000 in
theorem gX2_advise_X2_shiftTo : GoodIn wsX2_advise (wsV RX2 81 RX2 yX2_shiftTo wsX2_shiftTo) := goodIn_app (goodIn_of _ (by decide +kernel)) ggX2_advise_X2_shiftTo
set_option maxRecDepth 20000 in
theorem ggX2_advise_X2_costs : GoodIn wsX2_advise wsX2_costs := goodIn_r _ [16, 17, 18, 19, 20, 6, 21, 22, 23, 24, 25, 26, 27, 28, 29, 30, 31, 32, 33, 34, 35, 36, 37, 38, 9, 10, 11, 12, 2, 8, 39, 40, 41, 42, 43, 44, 45] (by decide +kernel) (by decide +kernel)
set_option maxRecDepth 20000 in
theorem gX2_advise_X2_costs : GoodIn wsX2_advise (wsV RX2 127 RX2 yX2_costs wsX2_costs) := goodIn_app (goodIn_of _ (by decide +kernel)) ggX2_advise_X2_costs
theorem dX2_advise_0 : decode cX2_advise 0 = .ok (.aload_n 0, 1) := by decide +kernel
theorem dX2_advise_1 : decode cX2_advise 1 = .ok (.iconst 0, 1) := by decide +kernel
theorem dX2_advise_2 : decode cX2_advise 2 = .ok (.putfield 26, 3) := by decide +kernel
theorem dX2_advise_5 : decode cX2_advise 5 = .ok (.aload_n 0, 1) := by decide +kernel
theorem dX2_advise_6 : decode cX2_advise 6 = .ok (.getfield 7, 3) := by decide +kernel
theorem dX2_advise_9 : decode cX2_advise 9 = .ok (.istore_n 1, 1) := by decide +kernel
theorem dX2_advise_10 : decode cX2_advise 10 = .ok (.iconst (-1), 1) := by decide +kernel
theorem dX2_advise_11 : decode cX2_advise 11 = .ok (.istore_n 2, 1) := by decide +kernel
theorem dX2_advise_12 : decode cX2_advise 12 = .ok (.iconst 0, 1) := by decide +kernel
theorem dX2_advise_13 : decode cX2_advise 13 = .ok (.istore_n 3, 1) := by decide +kernel
theorem dX2_advise_14 : decode cX2_advise 14 = .ok (.iconst 0, 1) := by decide +kernel
theorem dX2_advise_15 : decode cX2_advise 15 = .ok (.istore 4, 2) := by decide +kernel
theorem dX2_advise_17 : decode cX2_advise 17 = .ok (.iload 4, 2) := by decide +kernel
theorem dX2_advise_19 : decode cX2_advise 19 = .ok (.bipush 12, 2) := by decide +kernel
theorem dX2_advise_21 : decode cX2_advise 21 = .ok (.if_icmp .ge 46, 3) := by decide +kernel
theorem dX2_advise_24 : decode cX2_advise 24 = .ok (.aload_n 0, 1) := by decide +kernel
theorem dX2_advise_25 : decode cX2_advise 25 = .ok (.iload 4, 2) := by decide +kernel
theorem dX2_advise_27 : decode cX2_advise 27 = .ok (.invokevirtual 81, 3) := by decide +kernel
theorem dX2_advise_30 : decode cX2_advise 30 = .ok (.aload_n 0, 1) := by decide +kernel
theorem dX2_advise_31 : decode cX2_advise 31 = .ok (.invokevirtual 127, 3) := by decide +kernel
theorem dX2_advise_34 : decode cX2_advise 34 = .ok (.istore 5, 2) := by decide +kernel
theorem dX2_advise_36 : decode cX2_advise 36 = .ok (.aload_n 0, 1) := by decide +kernel
theorem dX2_advise_37 : decode cX2_advise 37 = .ok (.iload_n 1, 1) := by decide +kernel
theorem dX2_advise_38 : decode cX2_advise 38 = .ok (.invokevirtual 81, 3) := by decide +kernel
theorem dX2_advise_41 : decode cX2_advise 41 = .ok (.iload_n 2, 1) := by decide +kernel
theorem dX2_advise_42 : decode cX2_advise 42 = .ok (.iconst (-1), 1) := by decide +kernel
theorem dX2_advise_43 : decode cX2_advise 43 = .ok (.if_icmp .eq 12, 3) := by decide +kernel
theorem dX2_advise_46 : decode cX2_advise 46 = .ok (.iload 5, 2) := by decide +kernel
theorem dX2_advise_48 : decode cX2_advise 48 = .ok (.iload_n 3, 1) := by decide +kernel
theorem dX2_advise_49 : decode cX2_advise 49 = .ok (.if_icmp .lt 6, 3) := by decide +kernel
theorem dX2_advise_52 : decode cX2_advise 52 = .ok (.goto 9, 3) := by decide +kernel
theorem dX2_advise_55 : decode cX2_advise 55 = .ok (.iload 4, 2) := by decide +kernel
theorem dX2_advise_57 : decode cX2_advise 57 = .ok (.istore_n 2, 1) := by decide +kernel
theorem dX2_advise_58 : decode cX2_advise 58 = .ok (.iload 5, 2) := by decide +kernel
theorem dX2_advise_60 : decode cX2_advise 60 = .ok (.istore_n 3, 1) := by decide +kernel
theorem dX2_advise_61 : decode cX2_advise 61 = .ok (.iinc 4 1, 3) := by decide +kernel
theorem dX2_advise_64 : decode cX2_advise 64 = .ok (.goto (-47), 3) := by decide +kernel
theorem dX2_advise_67 : decode cX2_advise 67 = .ok (.iload_n 2, 1) := by decide +kernel
theorem dX2_advise_68 : decode cX2_advise 68 = .ok (.ireturn, 1) := by decide +kernel
set_option maxRecDepth 20000 in
theorem ggX2_temper_X2_isOne : GoodIn wsX2_temper wsX2_isOne := goodIn_r _ [7, 8, 9, 6, 10] (by decide +kernel) (by decide +kernel)
set_option maxRecDepth 20000 in
theorem gX2_temper_X2_isOne : GoodIn wsX2_temper (va_wsS RX2 74 yX2_isOne wsX2_isOne) := goodIn_app (goodIn_of _ (by decide +kernel)) ggX2_temper_X2_isOne
set_option maxRecDepth 20000 in
theorem ggX2_temper_X2_no : GoodIn wsX2_temper wsX2_no := goodIn_r _ [14, 1, 45, 46, 47, 48, 49, 50, 51] (by decide +kernel) (by decide +kernel)
set_option maxRecDepth 20000 in
theorem gX2_temper_X2_no : GoodIn wsX2_temper (wsV RX2 78 RX2 yX2_no wsX2_no) := goodIn_app (goodIn_of _ (by decide +kernel)) ggX2_temper_X2_no
set_option maxRecDepth 20000 in
theorem ggX2_temper_X2_costs : GoodIn wsX2_temper wsX2_costs := goodIn_r _ [18, 19, 20, 21, 22, 6, 23, 24, 25, 26, 27, 28, 29, 30, 31, 32, 33, 34, 35, 36, 37, 38, 39, 40, 41, 42, 43, 44, 2, 3, 45, 46, 47, 48, 49, 50, 51] (by decide +kernel) (by decide +kernel)
set_option maxRecDepth 20000 in
theorem gX2_temper_X2_costs : GoodIn wsX2_temper (wsV RX2 127 RX2 yX2_costs wsX2_costs) := goodIn_app (goodIn_of _ (by decide +kernel)) ggX2_temper_X2_costs
theorem dX2_temper_0 : decode cX2_temper 0 = .ok (.aload_n 0, 1) := by decide +kernel
theorem dX2_temper_1 : decode cX2_temper 1 = .ok (.iconst 0, 1) := by decide +kernel
theorem dX2_temper_2 : decode cX2_temper 2 = .ok (.putfield 26, 3) := by decide +kernel
theorem dX2_temper_5 : decode cX2_temper 5 = .ok (.iload_n 1, 1) := by decide +kernel
theorem dX2_temper_6 : decode cX2_temper 6 = .ok (.invokestatic 74, 3) := by decide +kernel
theorem dX2_temper_9 : decode cX2_temper 9 = .ok (.ifCond .ne 9, 3) := by decide +kernel
theorem dX2_temper_12 : decode cX2_temper 12 = .ok (.aload_n 0, 1) := by decide +kernel
theorem dX2_temper_13 : decode cX2_temper 13 = .ok (.iconst 1, 1) := by decide +kernel
theorem dX2_temper_14 : decode cX2_temper 14 = .ok (.invokevirtual 78, 3) := by decide +kernel
theorem dX2_temper_17 : decode cX2_temper 17 = .ok (.ireturn, 1) := by decide +kernel
theorem dX2_temper_18 : decode cX2_temper 18 = .ok (.iload_n 1, 1) := by decide +kernel
theorem dX2_temper_19 : decode cX2_temper 19 = .ok (.aload_n 0, 1) := by decide +kernel
theorem dX2_temper_20 : decode cX2_temper 20 = .ok (.getfield 7, 3) := by decide +kernel
theorem dX2_temper_23 : decode cX2_temper 23 = .ok (.if_icmp .ne 9, 3) := by decide +kernel
theorem dX2_temper_26 : decode cX2_temper 26 = .ok (.aload_n 0, 1) := by decide +kernel
theorem dX2_temper_27 : decode cX2_temper 27 = .ok (.iconst 2, 1) := by decide +kernel
theorem dX2_temper_28 : decode cX2_temper 28 = .ok (.invokevirtual 78, 3) := by decide +kernel
theorem dX2_temper_31 : decode cX2_temper 31 = .ok (.ireturn, 1) := by decide +kernel
theorem dX2_temper_32 : decode cX2_temper 32 = .ok (.aload_n 0, 1) := by decide +kernel
theorem dX2_temper_33 : decode cX2_temper 33 = .ok (.getfield 13, 3) := by decide +kernel
theorem dX2_temper_36 : decode cX2_temper 36 = .ok (.iload_n 1, 1) := by decide +kernel
theorem dX2_temper_37 : decode cX2_temper 37 = .ok (.iaload, 1) := by decide +kernel
theorem dX2_temper_38 : decode cX2_temper 38 = .ok (.istore_n 2, 1) := by decide +kernel
theorem dX2_temper_39 : decode cX2_temper 39 = .ok (.iconst 0, 1) := by decide +kernel
theorem dX2_temper_40 : decode cX2_temper 40 = .ok (.istore_n 3, 1) := by decide +kernel
theorem dX2_temper_41 : decode cX2_temper 41 = .ok (.iconst (-1), 1) := by decide +kernel
theorem dX2_temper_42 : decode cX2_temper 42 = .ok (.istore 4, 2) := by decide +kernel
theorem dX2_temper_44 : decode cX2_temper 44 = .ok (.bipush (-10), 2) := by decide +kernel
theorem dX2_temper_46 : decode cX2_temper 46 = .ok (.istore 5, 2) := by decide +kernel
theorem dX2_temper_48 : decode cX2_temper 48 = .ok (.iload 5, 2) := by decide +kernel
theorem dX2_temper_50 : decode cX2_temper 50 = .ok (.bipush 20, 2) := by decide +kernel
theorem dX2_temper_52 : decode cX2_temper 52 = .ok (.if_icmp .gt 46, 3) := by decide +kernel
theorem dX2_temper_55 : decode cX2_temper 55 = .ok (.aload_n 0, 1) := by decide +kernel
theorem dX2_temper_56 : decode cX2_temper 56 = .ok (.getfield 13, 3) := by decide +kernel
theorem dX2_temper_59 : decode cX2_temper 59 = .ok (.iload_n 1, 1) := by decide +kernel
theorem dX2_temper_60 : decode cX2_temper 60 = .ok (.iload 5, 2) := by decide +kernel
theorem dX2_temper_62 : decode cX2_temper 62 = .ok (.iastore, 1) := by decide +kernel
theorem dX2_temper_63 : decode cX2_temper 63 = .ok (.aload_n 0, 1) := by decide +kernel
theorem dX2_temper_64 : decode cX2_temper 64 = .ok (.invokevirtual 127, 3) := by decide +kernel
theorem dX2_temper_67 : decode cX2_temper 67 = .ok (.istore 6, 2) := by decide +kernel
theorem dX2_temper_69 : decode cX2_temper 69 = .ok (.iload 4, 2) := by decide +kernel
theorem dX2_temper_71 : decode cX2_temper 71 = .ok (.iconst (-1), 1) := by decide +kernel
theorem dX2_temper_72 : decode cX2_temper 72 = .ok (.if_icmp .eq 13, 3) := by decide +kernel
theorem dX2_temper_75 : decode cX2_temper 75 = .ok (.iload 6, 2) := by decide +kernel
theorem dX2_temper_77 : decode cX2_temper 77 = .ok (.iload 4, 2) := by decide +kernel
theorem dX2_temper_79 : decode cX2_temper 79 = .ok (.if_icmp .lt 6, 3) := by decide +kernel
theorem dX2_temper_82 : decode cX2_temper 82 = .ok (.goto 10, 3) := by decide +kernel
theorem dX2_temper_85 : decode cX2_temper 85 = .ok (.iload 5, 2) := by decide +kernel
theorem dX2_temper_87 : decode cX2_temper 87 = .ok (.istore_n 3, 1) := by decide +kernel
theorem dX2_temper_88 : decode cX2_temper 88 = .ok (.iload 6, 2) := by decide +kernel
theorem dX2_temper_90 : decode cX2_temper 90 = .ok (.istore 4, 2) := by decide +kernel
theorem dX2_temper_92 : decode cX2_temper 92 = .ok (.iinc 5 1, 3) := by decide +kernel
theorem dX2_temper_95 : decode cX2_temper 95 = .ok (.goto (-47), 3) := by decide +kernel
theorem dX2_temper_98 : decode cX2_temper 98 = .ok (.aload_n 0, 1) := by decide +kernel
theorem dX2_temper_99 : decode cX2_temper 99 = .ok (.getfield 13, 3) := by decide +kernel
theorem dX2_temper_102 : decode cX2_temper 102 = .ok (.iload_n 1, 1) := by decide +kernel
theorem dX2_temper_103 : decode cX2_temper 103 = .ok (.iload_n 2, 1) := by decide +kernel
theorem dX2_temper_104 : decode cX2_temper 104 = .ok (.iastore, 1) := by decide +kernel
theorem dX2_temper_105 : decode cX2_temper 105 = .ok (.iload_n 3, 1) := by decide +kernel
theorem dX2_temper_106 : decode cX2_temper 106 = .ok (.ireturn, 1) := by decide +kernel
set_option maxRecDepth 20000 in
theorem ggX2_next_X2_costs : GoodIn wsX2_next wsX2_costs := goodIn_r _ [7, 8, 9, 10, 11, 6, 12, 13, 14, 15, 16, 17, 18, 19, 20, 21, 22, 23, 24, 25, 26, 27, 28, 2, 29, 30, 31, 32, 33, 34, 46, 47, 48, 49, 50, 51, 52] (by decide +kernel) (by decide +kernel)
set_option maxRecDepth 20000 in
theorem gX2_next_X2_costs : GoodIn wsX2_next (wsV RX2 127 RX2 yX2_costs wsX2_costs) := goodIn_app (goodIn_of _ (by decide +kernel)) ggX2_next_X2_costs
set_option maxRecDepth 20000 in
theorem ggX2_next_X2_canTune : GoodIn wsX2_next wsX2_canTune := goodIn_r _ [38, 33, 39, 40, 6, 41, 46, 47, 48, 49, 50, 51, 52] (by decide +kernel) (by decide +kernel)
set_option maxRecDepth 20000 in
theorem gX2_next_X2_canTune : GoodIn wsX2_next (wsV RX2 88 RX2 yX2_canTune wsX2_canTune) := goodIn_app (goodIn_of _ (by decide +kernel)) ggX2_next_X2_canTune
set_option maxRecDepth 20000 in
theorem ggX2_next_X2_tuned : GoodIn wsX2_next wsX2_tuned := goodIn_r _ [45, 2, 39, 40, 6, 41, 46, 47, 48, 49, 50, 51, 52] (by decide +kernel) (by decide +kernel)
set_option maxRecDepth 20000 in
theorem gX2_next_X2_tuned : GoodIn wsX2_next (wsV RX2 91 RX2 yX2_tuned wsX2_tuned) := goodIn_app (goodIn_of _ (by decide +kernel)) ggX2_next_X2_tuned
theorem dX2_next_0 : decode cX2_next 0 = .ok (.aload_n 0, 1) := by decide +kernel
theorem dX2_next_1 : decode cX2_next 1 = .ok (.iconst 0, 1) := by decide +kernel
theorem dX2_next_2 : decode cX2_next 2 = .ok (.putfield 26, 3) := by decide +kernel
theorem dX2_next_5 : decode cX2_next 5 = .ok (.iconst (-1), 1) := by decide +kernel
theorem dX2_next_6 : decode cX2_next 6 = .ok (.istore_n 1, 1) := by decide +kernel
theorem dX2_next_7 : decode cX2_next 7 = .ok (.aload_n 0, 1) := by decide +kernel
theorem dX2_next_8 : decode cX2_next 8 = .ok (.invokevirtual 127, 3) := by decide +kernel
theorem dX2_next_11 : decode cX2_next 11 = .ok (.istore_n 2, 1) := by decide +kernel
theorem dX2_next_12 : decode cX2_next 12 = .ok (.iconst 0, 1) := by decide +kernel
theorem dX2_next_13 : decode cX2_next 13 = .ok (.istore_n 3, 1) := by decide +kernel
theorem dX2_next_14 : decode cX2_next 14 = .ok (.iload_n 3, 1) := by decide +kernel
theorem dX2_next_15 : decode cX2_next 15 = .ok (.bipush 12, 2) := by decide +kernel
theorem dX2_next_17 : decode cX2_next 17 = .ok (.if_icmp .ge 58, 3) := by decide +kernel
theorem dX2_next_20 : decode cX2_next 20 = .ok (.aload_n 0, 1) := by decide +kernel
theorem dX2_next_21 : decode cX2_next 21 = .ok (.iload_n 3, 1) := by decide +kernel
theorem dX2_next_22 : decode cX2_next 22 = .ok (.invokevirtual 88, 3) := by decide +kernel
theorem dX2_next_25 : decode cX2_next 25 = .ok (.ifCond .ne 6, 3) := by decide +kernel
theorem dX2_next_28 : decode cX2_next 28 = .ok (.goto 41, 3) := by decide +kernel
theorem dX2_next_31 : decode cX2_next 31 = .ok (.aload_n 0, 1) := by decide +kernel
theorem dX2_next_32 : decode cX2_next 32 = .ok (.iload_n 3, 1) := by decide +kernel
theorem dX2_next_33 : decode cX2_next 33 = .ok (.invokevirtual 91, 3) := by decide +kernel
theorem dX2_next_36 : decode cX2_next 36 = .ok (.istore 4, 2) := by decide +kernel
theorem dX2_next_38 : decode cX2_next 38 = .ok (.aload_n 0, 1) := by decide +kernel
theorem dX2_next_39 : decode cX2_next 39 = .ok (.invokevirtual 127, 3) := by decide +kernel
theorem dX2_next_42 : decode cX2_next 42 = .ok (.istore 5, 2) := by decide +kernel
theorem dX2_next_44 : decode cX2_next 44 = .ok (.aload_n 0, 1) := by decide +kernel
theorem dX2_next_45 : decode cX2_next 45 = .ok (.getfield 23, 3) := by decide +kernel
theorem dX2_next_48 : decode cX2_next 48 = .ok (.iload_n 3, 1) := by decide +kernel
theorem dX2_next_49 : decode cX2_next 49 = .ok (.dup2, 1) := by decide +kernel
theorem dX2_next_50 : decode cX2_next 50 = .ok (.iaload, 1) := by decide +kernel
theorem dX2_next_51 : decode cX2_next 51 = .ok (.iload 4, 2) := by decide +kernel
theorem dX2_next_53 : decode cX2_next 53 = .ok (.isub, 1) := by decide +kernel
theorem dX2_next_54 : decode cX2_next 54 = .ok (.iastore, 1) := by decide +kernel
theorem dX2_next_55 : decode cX2_next 55 = .ok (.iload 5, 2) := by decide +kernel
theorem dX2_next_57 : decode cX2_next 57 = .ok (.iload_n 2, 1) := by decide +kernel
theorem dX2_next_58 : decode cX2_next 58 = .ok (.if_icmp .lt 6, 3) := by decide +kernel
theorem dX2_next_61 : decode cX2_next 61 = .ok (.goto 8, 3) := by decide +kernel
theorem dX2_next_64 : decode cX2_next 64 = .ok (.iload_n 3, 1) := by decide +kernel
theorem dX2_next_65 : decode cX2_next 65 = .ok (.istore_n 1, 1) := by decide +kernel
theorem dX2_next_66 : decode cX2_next 66 = .ok (.iload 5, 2) := by decide +kernel
theorem dX2_next_68 : decode cX2_next 68 = .ok (.istore_n 2, 1) := by decide +kernel
theorem dX2_next_69 : decode cX2_next 69 = .ok (.iinc 3 1, 3) := by decide +kernel
theorem dX2_next_72 : decode cX2_next 72 = .ok (.goto (-58), 3) := by decide +kernel
theorem dX2_next_75 : decode cX2_next 75 = .ok (.iload_n 1, 1) := by decide +kernel
theorem dX2_next_76 : decode cX2_next 76 = .ok (.ireturn, 1) := by decide +kernel
set_option maxRecDepth 20000 in
theorem ggX2_mean_X2_sour : GoodIn wsX2_mean wsX2_sour := goodIn_r _ [7, 8, 9, 10, 11, 12, 13, 14, 6, 15, 16, 17, 18, 19, 20, 21, 22, 23, 24, 25, 26, 27, 28, 29, 30, 31, 32, 33, 34, 35, 36, 37] (by decide +kernel) (by decide +kernel)
set_option maxRecDepth 20000 in
theorem gX2_mean_X2_sour : GoodIn wsX2_mean (wsV RX2 68 RX2 yX2_sour wsX2_sour) := goodIn_app (goodIn_of _ (by decide +kernel)) ggX2_mean_X2_sour
theorem dX2_mean_0 : decode cX2_mean 0 = .ok (.aload_n 0, 1) := by decide +kernel
theorem dX2_mean_1 : decode cX2_mean 1 = .ok (.iconst 0, 1) := by decide +kernel
theorem dX2_mean_2 : decode cX2_mean 2 = .ok (.putfield 26, 3) := by decide +kernel
theorem dX2_mean_5 : decode cX2_mean 5 = .ok (.iconst 0, 1) := by decide +kernel
theorem dX2_mean_6 : decode cX2_mean 6 = .ok (.istore_n 1, 1) := by decide +kernel
theorem dX2_mean_7 : decode cX2_mean 7 = .ok (.iconst 0, 1) := by decide +kernel
theorem dX2_mean_8 : decode cX2_mean 8 = .ok (.istore_n 2, 1) := by decide +kernel
theorem dX2_mean_9 : decode cX2_mean 9 = .ok (.iload_n 2, 1) := by decide +kernel
theorem dX2_mean_10 : decode cX2_mean 10 = .ok (.bipush 12, 2) := by decide +kernel
theorem dX2_mean_12 : decode cX2_mean 12 = .ok (.if_icmp .ge 17, 3) := by decide +kernel
theorem dX2_mean_15 : decode cX2_mean 15 = .ok (.iload_n 1, 1) := by decide +kernel
theorem dX2_mean_16 : decode cX2_mean 16 = .ok (.aload_n 0, 1) := by decide +kernel
theorem dX2_mean_17 : decode cX2_mean 17 = .ok (.iload_n 2, 1) := by decide +kernel
theorem dX2_mean_18 : decode cX2_mean 18 = .ok (.invokevirtual 68, 3) := by decide +kernel
theorem dX2_mean_21 : decode cX2_mean 21 = .ok (.iadd, 1) := by decide +kernel
theorem dX2_mean_22 : decode cX2_mean 22 = .ok (.istore_n 1, 1) := by decide +kernel
theorem dX2_mean_23 : decode cX2_mean 23 = .ok (.iinc 2 1, 3) := by decide +kernel
theorem dX2_mean_26 : decode cX2_mean 26 = .ok (.goto (-17), 3) := by decide +kernel
theorem dX2_mean_29 : decode cX2_mean 29 = .ok (.iload_n 1, 1) := by decide +kernel
theorem dX2_mean_30 : decode cX2_mean 30 = .ok (.i2d, 1) := by decide +kernel
theorem dX2_mean_31 : decode cX2_mean 31 = .ok (.ldc2_w 147, 3) := by decide +kernel
theorem dX2_mean_34 : decode cX2_mean 34 = .ok (.ddiv, 1) := by decide +kernel
theorem dX2_mean_35 : decode cX2_mean 35 = .ok (.dreturn, 1) := by decide +kernel
set_option maxRecDepth 20000 in
theorem ggX2_digest_X2_counted : GoodIn wsX2_digest wsX2_counted := goodIn_r _ [8, 9, 10, 11, 12, 13, 14, 15, 16, 17, 18, 19, 20, 21, 7, 22, 23, 24, 25, 26, 27, 28, 29, 30, 31, 32, 33, 34, 35, 36, 37, 38, 39, 40, 41, 42, 43, 44, 45, 46, 47, 48, 49, 50, 51, 52, 53, 54, 55, 56, 57, 58, 59, 93, 94, 95, 96, 97, 98, 99] (by decide +kernel) (by decide +kernel)
set_option maxRecDepth 20000 in
theorem gX2_digest_X2_counted : GoodIn wsX2_digest (wsV RX2 134 RX2 yX2_counted wsX2_counted) := goodIn_app (goodIn_of _ (by decide +kernel)) ggX2_digest_X2_counted
set_option maxRecDepth 20000 in
theorem ggX2_digest_X2_fifthTold : GoodIn wsX2_digest wsX2_fifthTold := goodIn_r _ [63, 10, 40, 41, 42, 7, 43, 44, 32, 33, 34, 35, 36, 37, 38, 39, 18, 49, 50, 51, 52, 53, 54, 55, 56, 11, 12, 13, 14, 57, 58, 59, 93, 94, 95, 96, 97, 98, 99] (by decide +kernel) (by decide +kernel)
set_option maxRecDepth 20000 in
theorem gX2_digest_X2_fifthTold : GoodIn wsX2_digest (wsV RX2 103 RX2 yX2_fifthTold wsX2_fifthTold) := goodIn_app (goodIn_of _ (by decide +kernel)) ggX2_digest_X2_fifthTold
set_option maxRecDepth 20000 in
theorem ggX2_digest_X2_majorTold : GoodIn wsX2_digest wsX2_majorTold := goodIn_r _ [67, 28, 29, 30, 7, 31, 32, 33, 34, 35, 36, 37, 38, 39, 18, 40, 41, 42, 43, 10, 44, 53, 54, 55, 56, 11, 12, 13, 14, 57, 58, 59, 93, 94, 95, 96, 97, 98, 99] (by decide +kernel) (by decide +kernel)
set_option maxRecDepth 20000 in
theorem gX2_digest_X2_majorTold : GoodIn wsX2_digest (wsV RX2 106 RX2 yX2_majorTold wsX2_majorTold) := goodIn_app (goodIn_of _ (by decide +kernel)) ggX2_digest_X2_majorTold
set_option maxRecDepth 20000 in
theorem ggX2_digest_X2_minorTold : GoodIn wsX2_digest wsX2_minorTold := goodIn_r _ [71, 72, 73, 74, 7, 75, 32, 33, 34, 35, 36, 37, 38, 39, 18, 40, 41, 42, 43, 10, 44, 93, 94, 95, 96, 97, 98, 99] (by decide +kernel) (by decide +kernel)
set_option maxRecDepth 20000 in
theorem gX2_digest_X2_minorTold : GoodIn wsX2_digest (wsV RX2 112 RX2 yX2_minorTold wsX2_minorTold) := goodIn_app (goodIn_of _ (by decide +kernel)) ggX2_digest_X2_minorTold
set_option maxRecDepth 20000 in
theorem ggX2_digest_X2_noteTold : GoodIn wsX2_digest wsX2_noteTold := goodIn_r _ [79, 18, 80, 56, 57, 58, 7, 59, 32, 33, 34, 35, 36, 37, 38, 39, 40, 41, 42, 43, 10, 44, 81, 82, 83, 84, 93, 94, 95, 96, 97, 98, 99] (by decide +kernel) (by decide +kernel)
set_option maxRecDepth 20000 in
theorem gX2_digest_X2_noteTold : GoodIn wsX2_digest (wsV RX2 118 RX2 yX2_noteTold wsX2_noteTold) := goodIn_app (goodIn_of _ (by decide +kernel)) ggX2_digest_X2_noteTold
set_option maxRecDepth 20000 in
theorem ggX2_digest_X2_keyTold : GoodIn wsX2_digest wsX2_keyTold := goodIn_r _ [88, 23, 24, 25, 26, 7, 27, 11, 12, 13, 14, 28, 29, 30, 31, 32, 33, 34, 35, 36, 37, 38, 39, 18, 40, 41, 42, 43, 10, 44, 89, 90, 91, 92, 93, 94, 95, 96, 97, 98, 99] (by decide +kernel) (by decide +kernel)
set_option maxRecDepth 20000 in
theorem gX2_digest_X2_keyTold : GoodIn wsX2_digest (wsV RX2 124 RX2 yX2_keyTold wsX2_keyTold) := goodIn_app (goodIn_of _ (by decide +kernel)) ggX2_digest_X2_keyTold
theorem dX2_digest_0 : decode cX2_digest 0 = .ok (.aload_n 0, 1) := by decide +kernel
theorem dX2_digest_1 : decode cX2_digest 1 = .ok (.iconst 0, 1) := by decide +kernel
theorem dX2_digest_2 : decode cX2_digest 2 = .ok (.putfield 26, 3) := by decide +kernel
theorem dX2_digest_5 : decode cX2_digest 5 = .ok (.ldc2_w 149, 3) := by decide +kernel
theorem dX2_digest_8 : decode cX2_digest 8 = .ok (.lstore_n 1, 1) := by decide +kernel
theorem dX2_digest_9 : decode cX2_digest 9 = .ok (.iconst 0, 1) := by decide +kernel
theorem dX2_digest_10 : decode cX2_digest 10 = .ok (.istore_n 3, 1) := by decide +kernel
theorem dX2_digest_11 : decode cX2_digest 11 = .ok (.iload_n 3, 1) := by decide +kernel
theorem dX2_digest_12 : decode cX2_digest 12 = .ok (.bipush 7, 2) := by decide +kernel
theorem dX2_digest_14 : decode cX2_digest 14 = .ok (.if_icmp .ge 22, 3) := by decide +kernel
theorem dX2_digest_17 : decode cX2_digest 17 = .ok (.lload_n 1, 1) := by decide +kernel
theorem dX2_digest_18 : decode cX2_digest 18 = .ok (.ldc2_w 151, 3) := by decide +kernel
theorem dX2_digest_21 : decode cX2_digest 21 = .ok (.lmul, 1) := by decide +kernel
theorem dX2_digest_22 : decode cX2_digest 22 = .ok (.aload_n 0, 1) := by decide +kernel
theorem dX2_digest_23 : decode cX2_digest 23 = .ok (.iload_n 3, 1) := by decide +kernel
theorem dX2_digest_24 : decode cX2_digest 24 = .ok (.invokevirtual 134, 3) := by decide +kernel
theorem dX2_digest_27 : decode cX2_digest 27 = .ok (.i2l, 1) := by decide +kernel
theorem dX2_digest_28 : decode cX2_digest 28 = .ok (.ladd, 1) := by decide +kernel
theorem dX2_digest_29 : decode cX2_digest 29 = .ok (.lstore_n 1, 1) := by decide +kernel
theorem dX2_digest_30 : decode cX2_digest 30 = .ok (.iinc 3 1, 3) := by decide +kernel
theorem dX2_digest_33 : decode cX2_digest 33 = .ok (.goto (-22), 3) := by decide +kernel
theorem dX2_digest_36 : decode cX2_digest 36 = .ok (.iconst 0, 1) := by decide +kernel
theorem dX2_digest_37 : decode cX2_digest 37 = .ok (.istore_n 3, 1) := by decide +kernel
theorem dX2_digest_38 : decode cX2_digest 38 = .ok (.iload_n 3, 1) := by decide +kernel
theorem dX2_digest_39 : decode cX2_digest 39 = .ok (.bipush 12, 2) := by decide +kernel
theorem dX2_digest_41 : decode cX2_digest 41 = .ok (.if_icmp .ge 159, 3) := by decide +kernel
theorem dX2_digest_44 : decode cX2_digest 44 = .ok (.iconst 0, 1) := by decide +kernel
theorem dX2_digest_45 : decode cX2_digest 45 = .ok (.istore 4, 2) := by decide +kernel
theorem dX2_digest_47 : decode cX2_digest 47 = .ok (.iload 4, 2) := by decide +kernel
theorem dX2_digest_49 : decode cX2_digest 49 = .ok (.iconst 5, 1) := by decide +kernel
theorem dX2_digest_50 : decode cX2_digest 50 = .ok (.if_icmp .ge 24, 3) := by decide +kernel
theorem dX2_digest_53 : decode cX2_digest 53 = .ok (.lload_n 1, 1) := by decide +kernel
theorem dX2_digest_54 : decode cX2_digest 54 = .ok (.ldc2_w 151, 3) := by decide +kernel
theorem dX2_digest_57 : decode cX2_digest 57 = .ok (.lmul, 1) := by decide +kernel
theorem dX2_digest_58 : decode cX2_digest 58 = .ok (.aload_n 0, 1) := by decide +kernel
theorem dX2_digest_59 : decode cX2_digest 59 = .ok (.iload_n 3, 1) := by decide +kernel
theorem dX2_digest_60 : decode cX2_digest 60 = .ok (.iload 4, 2) := by decide +kernel
theorem dX2_digest_62 : decode cX2_digest 62 = .ok (.invokevirtual 103, 3) := by decide +kernel
theorem dX2_digest_65 : decode cX2_digest 65 = .ok (.i2l, 1) := by decide +kernel
theorem dX2_digest_66 : decode cX2_digest 66 = .ok (.ladd, 1) := by decide +kernel
theorem dX2_digest_67 : decode cX2_digest 67 = .ok (.lstore_n 1, 1) := by decide +kernel
theorem dX2_digest_68 : decode cX2_digest 68 = .ok (.iinc 4 1, 3) := by decide +kernel
theorem dX2_digest_71 : decode cX2_digest 71 = .ok (.goto (-24), 3) := by decide +kernel
theorem dX2_digest_74 : decode cX2_digest 74 = .ok (.iconst 0, 1) := by decide +kernel
theorem dX2_digest_75 : decode cX2_digest 75 = .ok (.istore 4, 2) := by decide +kernel
theorem dX2_digest_77 : decode cX2_digest 77 = .ok (.iload 4, 2) := by decide +kernel
theorem dX2_digest_79 : decode cX2_digest 79 = .ok (.iconst 3, 1) := by decide +kernel
theorem dX2_digest_80 : decode cX2_digest 80 = .ok (.if_icmp .ge 24, 3) := by decide +kernel
theorem dX2_digest_83 : decode cX2_digest 83 = .ok (.lload_n 1, 1) := by decide +kernel
theorem dX2_digest_84 : decode cX2_digest 84 = .ok (.ldc2_w 151, 3) := by decide +kernel
theorem dX2_digest_87 : decode cX2_digest 87 = .ok (.lmul, 1) := by decide +kernel
theorem dX2_digest_88 : decode cX2_digest 88 = .ok (.aload_n 0, 1) := by decide +kernel
theorem dX2_digest_89 : decode cX2_digest 89 = .ok (.iload_n 3, 1) := by decide +kernel
theorem dX2_digest_90 : decode cX2_digest 90 = .ok (.iload 4, 2) := by decide +kernel
theorem dX2_digest_92 : decode cX2_digest 92 = .ok (.invokevirtual 106, 3) := by decide +kernel
theorem dX2_digest_95 : decode cX2_digest 95 = .ok (.i2l, 1) := by decide +kernel
theorem dX2_digest_96 : decode cX2_digest 96 = .ok (.ladd, 1) := by decide +kernel
theorem dX2_digest_97 : decode cX2_digest 97 = .ok (.lstore_n 1, 1) := by decide +kernel
theorem dX2_digest_98 : decode cX2_digest 98 = .ok (.iinc 4 1, 3) := by decide +kernel
theorem dX2_digest_101 : decode cX2_digest 101 = .ok (.goto (-24), 3) := by decide +kernel
theorem dX2_digest_104 : decode cX2_digest 104 = .ok (.iconst 0, 1) := by decide +kernel
theorem dX2_digest_105 : decode cX2_digest 105 = .ok (.istore 4, 2) := by decide +kernel
theorem dX2_digest_107 : decode cX2_digest 107 = .ok (.iload 4, 2) := by decide +kernel
theorem dX2_digest_109 : decode cX2_digest 109 = .ok (.iconst 2, 1) := by decide +kernel
theorem dX2_digest_110 : decode cX2_digest 110 = .ok (.if_icmp .ge 24, 3) := by decide +kernel
theorem dX2_digest_113 : decode cX2_digest 113 = .ok (.lload_n 1, 1) := by decide +kernel
theorem dX2_digest_114 : decode cX2_digest 114 = .ok (.ldc2_w 151, 3) := by decide +kernel
theorem dX2_digest_117 : decode cX2_digest 117 = .ok (.lmul, 1) := by decide +kernel
theorem dX2_digest_118 : decode cX2_digest 118 = .ok (.aload_n 0, 1) := by decide +kernel
theorem dX2_digest_119 : decode cX2_digest 119 = .ok (.iload_n 3, 1) := by decide +kernel
theorem dX2_digest_120 : decode cX2_digest 120 = .ok (.iload 4, 2) := by decide +kernel
theorem dX2_digest_122 : decode cX2_digest 122 = .ok (.invokevirtual 112, 3) := by decide +kernel
theorem dX2_digest_125 : decode cX2_digest 125 = .ok (.i2l, 1) := by decide +kernel
theorem dX2_digest_126 : decode cX2_digest 126 = .ok (.ladd, 1) := by decide +kernel
theorem dX2_digest_127 : decode cX2_digest 127 = .ok (.lstore_n 1, 1) := by decide +kernel
theorem dX2_digest_128 : decode cX2_digest 128 = .ok (.iinc 4 1, 3) := by decide +kernel
theorem dX2_digest_131 : decode cX2_digest 131 = .ok (.goto (-24), 3) := by decide +kernel
theorem dX2_digest_134 : decode cX2_digest 134 = .ok (.iconst 0, 1) := by decide +kernel
theorem dX2_digest_135 : decode cX2_digest 135 = .ok (.istore 4, 2) := by decide +kernel
theorem dX2_digest_137 : decode cX2_digest 137 = .ok (.iload 4, 2) := by decide +kernel
theorem dX2_digest_139 : decode cX2_digest 139 = .ok (.iconst 5, 1) := by decide +kernel
theorem dX2_digest_140 : decode cX2_digest 140 = .ok (.if_icmp .ge 24, 3) := by decide +kernel
theorem dX2_digest_143 : decode cX2_digest 143 = .ok (.lload_n 1, 1) := by decide +kernel
theorem dX2_digest_144 : decode cX2_digest 144 = .ok (.ldc2_w 151, 3) := by decide +kernel
theorem dX2_digest_147 : decode cX2_digest 147 = .ok (.lmul, 1) := by decide +kernel
theorem dX2_digest_148 : decode cX2_digest 148 = .ok (.aload_n 0, 1) := by decide +kernel
theorem dX2_digest_149 : decode cX2_digest 149 = .ok (.iload_n 3, 1) := by decide +kernel
theorem dX2_digest_150 : decode cX2_digest 150 = .ok (.iload 4, 2) := by decide +kernel
theorem dX2_digest_152 : decode cX2_digest 152 = .ok (.invokevirtual 118, 3) := by decide +kernel
theorem dX2_digest_155 : decode cX2_digest 155 = .ok (.i2l, 1) := by decide +kernel
theorem dX2_digest_156 : decode cX2_digest 156 = .ok (.ladd, 1) := by decide +kernel
theorem dX2_digest_157 : decode cX2_digest 157 = .ok (.lstore_n 1, 1) := by decide +kernel
theorem dX2_digest_158 : decode cX2_digest 158 = .ok (.iinc 4 1, 3) := by decide +kernel
theorem dX2_digest_161 : decode cX2_digest 161 = .ok (.goto (-24), 3) := by decide +kernel
theorem dX2_digest_164 : decode cX2_digest 164 = .ok (.iconst 0, 1) := by decide +kernel
theorem dX2_digest_165 : decode cX2_digest 165 = .ok (.istore 4, 2) := by decide +kernel
theorem dX2_digest_167 : decode cX2_digest 167 = .ok (.iload 4, 2) := by decide +kernel
theorem dX2_digest_169 : decode cX2_digest 169 = .ok (.iconst 4, 1) := by decide +kernel
theorem dX2_digest_170 : decode cX2_digest 170 = .ok (.if_icmp .ge 24, 3) := by decide +kernel
theorem dX2_digest_173 : decode cX2_digest 173 = .ok (.lload_n 1, 1) := by decide +kernel
theorem dX2_digest_174 : decode cX2_digest 174 = .ok (.ldc2_w 151, 3) := by decide +kernel
theorem dX2_digest_177 : decode cX2_digest 177 = .ok (.lmul, 1) := by decide +kernel
theorem dX2_digest_178 : decode cX2_digest 178 = .ok (.aload_n 0, 1) := by decide +kernel
theorem dX2_digest_179 : decode cX2_digest 179 = .ok (.iload_n 3, 1) := by decide +kernel
theorem dX2_digest_180 : decode cX2_digest 180 = .ok (.iload 4, 2) := by decide +kernel
theorem dX2_digest_182 : decode cX2_digest 182 = .ok (.invokevirtual 124, 3) := by decide +kernel
theorem dX2_digest_185 : decode cX2_digest 185 = .ok (.i2l, 1) := by decide +kernel
theorem dX2_digest_186 : decode cX2_digest 186 = .ok (.ladd, 1) := by decide +kernel
theorem dX2_digest_187 : decode cX2_digest 187 = .ok (.lstore_n 1, 1) := by decide +kernel
theorem dX2_digest_188 : decode cX2_digest 188 = .ok (.iinc 4 1, 3) := by decide +kernel
theorem dX2_digest_191 : decode cX2_digest 191 = .ok (.goto (-24), 3) := by decide +kernel
theorem dX2_digest_194 : decode cX2_digest 194 = .ok (.iinc 3 1, 3) := by decide +kernel
theorem dX2_digest_197 : decode cX2_digest 197 = .ok (.goto (-159), 3) := by decide +kernel
theorem dX2_digest_200 : decode cX2_digest 200 = .ok (.lload_n 1, 1) := by decide +kernel
theorem dX2_digest_201 : decode cX2_digest 201 = .ok (.lreturn, 1) := by decide +kernel
end
section
theorem dJ9_floorMod_7cf53_0 : decode cJ9_floorMod_7cf53 0 = .ok (.iload_n 0, 1) := by decide +kernel
theorem dJ9_floorMod_7cf53_1 : decode cJ9_floorMod_7cf53 1 = .ok (.iload_n 1, 1) := by decide +kernel
theorem dJ9_floorMod_7cf53_2 : decode cJ9_floorMod_7cf53 2 = .ok (.irem, 1) := by decide +kernel
theorem dJ9_floorMod_7cf53_3 : decode cJ9_floorMod_7cf53 3 = .ok (.istore_n 2, 1) := by decide +kernel
theorem dJ9_floorMod_7cf53_4 : decode cJ9_floorMod_7cf53 4 = .ok (.iload_n 0, 1) := by decide +kernel
theorem dJ9_floorMod_7cf53_5 : decode cJ9_floorMod_7cf53 5 = .ok (.iload_n 1, 1) := by decide +kernel
theorem dJ9_floorMod_7cf53_6 : decode cJ9_floorMod_7cf53 6 = .ok (.ixor, 1) := by decide +kernel
theorem dJ9_floorMod_7cf53_7 : decode cJ9_floorMod_7cf53 7 = .ok (.ifCond .ge 11, 3) := by decide +kernel
theorem dJ9_floorMod_7cf53_10 : decode cJ9_floorMod_7cf53 10 = .ok (.iload_n 2, 1) := by decide +kernel
theorem dJ9_floorMod_7cf53_11 : decode cJ9_floorMod_7cf53 11 = .ok (.ifCond .eq 7, 3) := by decide +kernel
theorem dJ9_floorMod_7cf53_14 : decode cJ9_floorMod_7cf53 14 = .ok (.iload_n 2, 1) := by decide +kernel
theorem dJ9_floorMod_7cf53_15 : decode cJ9_floorMod_7cf53 15 = .ok (.iload_n 1, 1) := by decide +kernel
theorem dJ9_floorMod_7cf53_16 : decode cJ9_floorMod_7cf53 16 = .ok (.iadd, 1) := by decide +kernel
theorem dJ9_floorMod_7cf53_17 : decode cJ9_floorMod_7cf53 17 = .ok (.ireturn, 1) := by decide +kernel
theorem dJ9_floorMod_7cf53_18 : decode cJ9_floorMod_7cf53 18 = .ok (.iload_n 2, 1) := by decide +kernel
theorem dJ9_floorMod_7cf53_19 : decode cJ9_floorMod_7cf53 19 = .ok (.ireturn, 1) := by decide +kernel
theorem dJ9_abs_0f7a4_0 : decode cJ9_abs_0f7a4 0 = .ok (.iload_n 0, 1) := by decide +kernel
theorem dJ9_abs_0f7a4_1 : decode cJ9_abs_0f7a4 1 = .ok (.ifCond .ge 8, 3) := by decide +kernel
theorem dJ9_abs_0f7a4_4 : decode cJ9_abs_0f7a4 4 = .ok (.iload_n 0, 1) := by decide +kernel
theorem dJ9_abs_0f7a4_5 : decode cJ9_abs_0f7a4 5 = .ok (.ineg, 1) := by decide +kernel
theorem dJ9_abs_0f7a4_6 : decode cJ9_abs_0f7a4 6 = .ok (.goto 4, 3) := by decide +kernel
theorem dJ9_abs_0f7a4_9 : decode cJ9_abs_0f7a4 9 = .ok (.iload_n 0, 1) := by decide +kernel
theorem dJ9_abs_0f7a4_10 : decode cJ9_abs_0f7a4 10 = .ok (.ireturn, 1) := by decide +kernel
theorem dJ9_max_7cf53_0 : decode cJ9_max_7cf53 0 = .ok (.iload_n 0, 1) := by decide +kernel
theorem dJ9_max_7cf53_1 : decode cJ9_max_7cf53 1 = .ok (.iload_n 1, 1) := by decide +kernel
theorem dJ9_max_7cf53_2 : decode cJ9_max_7cf53 2 = .ok (.if_icmp .lt 7, 3) := by decide +kernel
theorem dJ9_max_7cf53_5 : decode cJ9_max_7cf53 5 = .ok (.iload_n 0, 1) := by decide +kernel
theorem dJ9_max_7cf53_6 : decode cJ9_max_7cf53 6 = .ok (.goto 4, 3) := by decide +kernel
theorem dJ9_max_7cf53_9 : decode cJ9_max_7cf53 9 = .ok (.iload_n 1, 1) := by decide +kernel
theorem dJ9_max_7cf53_10 : decode cJ9_max_7cf53 10 = .ok (.ireturn, 1) := by decide +kernel
theorem dJ9_min_7cf53_0 : decode cJ9_min_7cf53 0 = .ok (.iload_n 0, 1) := by decide +kernel
theorem dJ9_min_7cf53_1 : decode cJ9_min_7cf53 1 = .ok (.iload_n 1, 1) := by decide +kernel
theorem dJ9_min_7cf53_2 : decode cJ9_min_7cf53 2 = .ok (.if_icmp .gt 7, 3) := by decide +kernel
theorem dJ9_min_7cf53_5 : decode cJ9_min_7cf53 5 = .ok (.iload_n 0, 1) := by decide +kernel
theorem dJ9_min_7cf53_6 : decode cJ9_min_7cf53 6 = .ok (.goto 4, 3) := by decide +kernel
theorem dJ9_min_7cf53_9 : decode cJ9_min_7cf53 9 = .ok (.iload_n 1, 1) := by decide +kernel
theorem dJ9_min_7cf53_10 : decode cJ9_min_7cf53 10 = .ok (.ireturn, 1) := by decide +kernel
set_option maxRecDepth 20000 in
theorem ggL_setFifth_X1_setFifth : GoodIn wsL_setFifth wsX1_setFifth := goodIn_ca (goodIn_ca (goodIn_ca (goodIn_r _ [8, 9, 10, 11, 12, 7, 13, 14, 15, 16, 17, 18, 19, 20, 21, 22, 23, 24, 25, 26, 27, 28, 29, 30, 31, 32, 33, 34, 35, 36, 37, 38, 39, 40, 41, 42, 43, 44, 45, 46, 47, 48, 49, 50] (by decide +kernel) (by decide +kernel)) (goodIn_sub (fun _ h => List.mem_cons_of_mem _ (List.mem_append_left _ (List.mem_append_left _ (List.mem_append_right _ h)))) (by decide +kernel))) (goodIn_sub (fun _ h => List.mem_cons_of_mem _ (List.mem_append_left _ (List.mem_append_right _ h))) (by decide +kernel))) (goodIn_sub (fun _ h => List.mem_cons_of_mem _ (List.mem_append_right _ h)) (by decide +kernel))
set_option maxRecDepth 20000 in
theorem gL_setFifth_X1_setFifth : GoodIn wsL_setFifth (wsV RL 7 RX1 yX1_setFifth wsX1_setFifth) := goodIn_app (goodIn_of _ (by decide +kernel)) ggL_setFifth_X1_setFifth
theorem dL_setFifth_0 : decode cL_setFifth 0 = .ok (.aload_n 3, 1) := by decide +kernel
theorem dL_setFifth_1 : decode cL_setFifth 1 = .ok (.iconst 0, 1) := by decide +kernel
theorem dL_setFifth_2 : decode cL_setFifth 2 = .ok (.aload_n 0, 1) := by decide +kernel
theorem dL_setFifth_3 : decode cL_setFifth 3 = .ok (.iload_n 1, 1) := by decide +kernel
theorem dL_setFifth_4 : decode cL_setFifth 4 = .ok (.iload_n 2, 1) := by decide +kernel
theorem dL_setFifth_5 : decode cL_setFifth 5 = .ok (.invokevirtual 7, 3) := by decide +kernel
theorem dL_setFifth_8 : decode cL_setFifth 8 = .ok (.i2l, 1) := by decide +kernel
theorem dL_setFifth_9 : decode cL_setFifth 9 = .ok (.lastore, 1) := by decide +kernel
theorem dL_setFifth_10 : decode cL_setFifth 10 = .ok (.goto 15, 3) := by decide +kernel
theorem dL_setFifth_13 : decode cL_setFifth 13 = .ok (.astore 4, 2) := by decide +kernel
theorem dL_setFifth_15 : decode cL_setFifth 15 = .ok (.iconst 1, 1) := by decide +kernel
theorem dL_setFifth_16 : decode cL_setFifth 16 = .ok (.ireturn, 1) := by decide +kernel
theorem dL_setFifth_17 : decode cL_setFifth 17 = .ok (.astore 4, 2) := by decide +kernel
theorem dL_setFifth_19 : decode cL_setFifth 19 = .ok (.iconst 2, 1) := by decide +kernel
theorem dL_setFifth_20 : decode cL_setFifth 20 = .ok (.ireturn, 1) := by decide +kernel
theorem dL_setFifth_21 : decode cL_setFifth 21 = .ok (.astore 4, 2) := by decide +kernel
theorem dL_setFifth_23 : decode cL_setFifth 23 = .ok (.iconst 3, 1) := by decide +kernel
theorem dL_setFifth_24 : decode cL_setFifth 24 = .ok (.ireturn, 1) := by decide +kernel
theorem dL_setFifth_25 : decode cL_setFifth 25 = .ok (.iconst 0, 1) := by decide +kernel
theorem dL_setFifth_26 : decode cL_setFifth 26 = .ok (.ireturn, 1) := by decide +kernel
set_option maxRecDepth 20000 in
theorem ggL_shift_X1_shift : GoodIn wsL_shift wsX1_shift := goodIn_ca (goodIn_r _ [6, 7, 8, 9, 10, 5, 11, 12, 13, 14, 15, 16, 17, 18, 19, 20, 21, 22, 23, 24, 25, 26, 27, 28, 29, 30, 31, 32] (by decide +kernel) (by decide +kernel)) (goodIn_sub (fun _ h => List.mem_cons_of_mem _ (List.mem_append_right _ h)) (by decide +kernel))
set_option maxRecDepth 20000 in
theorem gL_shift_X1_shift : GoodIn wsL_shift (wsV RL 19 RX1 yX1_shift wsX1_shift) := goodIn_app (goodIn_of _ (by decide +kernel)) ggL_shift_X1_shift
theorem dL_shift_0 : decode cL_shift 0 = .ok (.aload_n 2, 1) := by decide +kernel
theorem dL_shift_1 : decode cL_shift 1 = .ok (.iconst 0, 1) := by decide +kernel
theorem dL_shift_2 : decode cL_shift 2 = .ok (.aload_n 0, 1) := by decide +kernel
theorem dL_shift_3 : decode cL_shift 3 = .ok (.iload_n 1, 1) := by decide +kernel
theorem dL_shift_4 : decode cL_shift 4 = .ok (.invokevirtual 19, 3) := by decide +kernel
theorem dL_shift_7 : decode cL_shift 7 = .ok (.i2l, 1) := by decide +kernel
theorem dL_shift_8 : decode cL_shift 8 = .ok (.lastore, 1) := by decide +kernel
theorem dL_shift_9 : decode cL_shift 9 = .ok (.goto 6, 3) := by decide +kernel
theorem dL_shift_12 : decode cL_shift 12 = .ok (.astore_n 3, 1) := by decide +kernel
theorem dL_shift_13 : decode cL_shift 13 = .ok (.iconst 1, 1) := by decide +kernel
theorem dL_shift_14 : decode cL_shift 14 = .ok (.ireturn, 1) := by decide +kernel
theorem dL_shift_15 : decode cL_shift 15 = .ok (.iconst 0, 1) := by decide +kernel
theorem dL_shift_16 : decode cL_shift 16 = .ok (.ireturn, 1) := by decide +kernel
set_option maxRecDepth 20000 in
theorem ggL_spread_X1_spread : GoodIn wsL_spread wsX1_spread := goodIn_ca (goodIn_r _ [6, 7, 8, 9, 5, 10, 11, 12, 13, 14, 15, 16, 17, 18, 19, 20, 21, 22, 23, 24, 25, 26, 27, 28, 29, 30, 31, 32, 33, 34, 35, 36, 37, 38, 39] (by decide +kernel) (by decide +kernel)) (goodIn_sub (fun _ h => List.mem_cons_of_mem _ (List.mem_append_right _ h)) (by decide +kernel))
set_option maxRecDepth 20000 in
theorem gL_spread_X1_spread : GoodIn wsL_spread (wsV RL 23 RX1 yX1_spread wsX1_spread) := goodIn_app (goodIn_of _ (by decide +kernel)) ggL_spread_X1_spread
theorem dL_spread_0 : decode cL_spread 0 = .ok (.aload_n 2, 1) := by decide +kernel
theorem dL_spread_1 : decode cL_spread 1 = .ok (.iconst 0, 1) := by decide +kernel
theorem dL_spread_2 : decode cL_spread 2 = .ok (.aload_n 0, 1) := by decide +kernel
theorem dL_spread_3 : decode cL_spread 3 = .ok (.iload_n 1, 1) := by decide +kernel
theorem dL_spread_4 : decode cL_spread 4 = .ok (.invokevirtual 23, 3) := by decide +kernel
theorem dL_spread_7 : decode cL_spread 7 = .ok (.i2l, 1) := by decide +kernel
theorem dL_spread_8 : decode cL_spread 8 = .ok (.lastore, 1) := by decide +kernel
theorem dL_spread_9 : decode cL_spread 9 = .ok (.goto 6, 3) := by decide +kernel
theorem dL_spread_12 : decode cL_spread 12 = .ok (.astore_n 3, 1) := by decide +kernel
theorem dL_spread_13 : decode cL_spread 13 = .ok (.iconst 1, 1) := by decide +kernel
theorem dL_spread_14 : decode cL_spread 14 = .ok (.ireturn, 1) := by decide +kernel
theorem dL_spread_15 : decode cL_spread 15 = .ok (.iconst 0, 1) := by decide +kernel
theorem dL_spread_16 : decode cL_spread 16 = .ok (.ireturn, 1) := by decide +kernel
set_option maxRecDepth 20000 in
theorem ggL_setOften_X1_setOften : GoodIn wsL_setOften wsX1_setOften := goodIn_ca (goodIn_ca (goodIn_r _ [7, 8, 9, 10, 11, 6, 12, 13, 14, 15, 16, 17, 18, 19, 20, 21, 22, 23, 24, 25, 26, 27] (by decide +kernel) (by decide +kernel)) (goodIn_sub (fun _ h => List.mem_cons_of_mem _ (List.mem_append_left _ (List.mem_append_right _ h))) (by decide +kernel))) (goodIn_sub (fun _ h => List.mem_cons_of_mem _ (List.mem_append_right _ h)) (by decide +kernel))
set_option maxRecDepth 20000 in
theorem gL_setOften_X1_setOften : GoodIn wsL_setOften (wsV RL 26 RX1 yX1_setOften wsX1_setOften) := goodIn_app (goodIn_of _ (by decide +kernel)) ggL_setOften_X1_setOften
theorem dL_setOften_0 : decode cL_setOften 0 = .ok (.aload_n 3, 1) := by decide +kernel
theorem dL_setOften_1 : decode cL_setOften 1 = .ok (.iconst 0, 1) := by decide +kernel
theorem dL_setOften_2 : decode cL_setOften 2 = .ok (.aload_n 0, 1) := by decide +kernel
theorem dL_setOften_3 : decode cL_setOften 3 = .ok (.iload_n 1, 1) := by decide +kernel
theorem dL_setOften_4 : decode cL_setOften 4 = .ok (.iload_n 2, 1) := by decide +kernel
theorem dL_setOften_5 : decode cL_setOften 5 = .ok (.invokevirtual 26, 3) := by decide +kernel
theorem dL_setOften_8 : decode cL_setOften 8 = .ok (.i2l, 1) := by decide +kernel
theorem dL_setOften_9 : decode cL_setOften 9 = .ok (.lastore, 1) := by decide +kernel
theorem dL_setOften_10 : decode cL_setOften 10 = .ok (.goto 11, 3) := by decide +kernel
theorem dL_setOften_13 : decode cL_setOften 13 = .ok (.astore 4, 2) := by decide +kernel
theorem dL_setOften_15 : decode cL_setOften 15 = .ok (.iconst 1, 1) := by decide +kernel
theorem dL_setOften_16 : decode cL_setOften 16 = .ok (.ireturn, 1) := by decide +kernel
theorem dL_setOften_17 : decode cL_setOften 17 = .ok (.astore 4, 2) := by decide +kernel
theorem dL_setOften_19 : decode cL_setOften 19 = .ok (.iconst 2, 1) := by decide +kernel
theorem dL_setOften_20 : decode cL_setOften 20 = .ok (.ireturn, 1) := by decide +kernel
theorem dL_setOften_21 : decode cL_setOften 21 = .ok (.iconst 0, 1) := by decide +kernel
theorem dL_setOften_22 : decode cL_setOften 22 = .ok (.ireturn, 1) := by decide +kernel
set_option maxRecDepth 20000 in
theorem ggL_setDrift_X1_setDrift : GoodIn wsL_setDrift wsX1_setDrift := goodIn_ca (goodIn_ca (goodIn_r _ [7, 8, 9, 10, 11, 6, 12, 13, 14, 15, 16, 17, 18, 19, 20, 21, 22, 23, 24, 25, 26, 27] (by decide +kernel) (by decide +kernel)) (goodIn_sub (fun _ h => List.mem_cons_of_mem _ (List.mem_append_left _ (List.mem_append_right _ h))) (by decide +kernel))) (goodIn_sub (fun _ h => List.mem_cons_of_mem _ (List.mem_append_right _ h)) (by decide +kernel))
set_option maxRecDepth 20000 in
theorem gL_setDrift_X1_setDrift : GoodIn wsL_setDrift (wsV RL 29 RX1 yX1_setDrift wsX1_setDrift) := goodIn_app (goodIn_of _ (by decide +kernel)) ggL_setDrift_X1_setDrift
theorem dL_setDrift_0 : decode cL_setDrift 0 = .ok (.aload_n 3, 1) := by decide +kernel
theorem dL_setDrift_1 : decode cL_setDrift 1 = .ok (.iconst 0, 1) := by decide +kernel
theorem dL_setDrift_2 : decode cL_setDrift 2 = .ok (.aload_n 0, 1) := by decide +kernel
theorem dL_setDrift_3 : decode cL_setDrift 3 = .ok (.iload_n 1, 1) := by decide +kernel
theorem dL_setDrift_4 : decode cL_setDrift 4 = .ok (.iload_n 2, 1) := by decide +kernel
theorem dL_setDrift_5 : decode cL_setDrift 5 = .ok (.invokevirtual 29, 3) := by decide +kernel
theorem dL_setDrift_8 : decode cL_setDrift 8 = .ok (.i2l, 1) := by decide +kernel
theorem dL_setDrift_9 : decode cL_setDrift 9 = .ok (.lastore, 1) := by decide +kernel
theorem dL_setDrift_10 : decode cL_setDrift 10 = .ok (.goto 11, 3) := by decide +kernel
theorem dL_setDrift_13 : decode cL_setDrift 13 = .ok (.astore 4, 2) := by decide +kernel
theorem dL_setDrift_15 : decode cL_setDrift 15 = .ok (.iconst 1, 1) := by decide +kernel
theorem dL_setDrift_16 : decode cL_setDrift 16 = .ok (.ireturn, 1) := by decide +kernel
theorem dL_setDrift_17 : decode cL_setDrift 17 = .ok (.astore 4, 2) := by decide +kernel
theorem dL_setDrift_19 : decode cL_setDrift 19 = .ok (.iconst 2, 1) := by decide +kernel
theorem dL_setDrift_20 : decode cL_setDrift 20 = .ok (.ireturn, 1) := by decide +kernel
theorem dL_setDrift_21 : decode cL_setDrift 21 = .ok (.iconst 0, 1) := by decide +kernel
theorem dL_setDrift_22 : decode cL_setDrift 22 = .ok (.ireturn, 1) := by decide +kernel
set_option maxRecDepth 20000 in
theorem ggL_tune_X1_tune : GoodIn wsL_tune wsX1_tune := goodIn_ca (goodIn_ca (goodIn_r _ [7, 8, 9, 10, 11, 12, 6, 13, 14, 15, 16, 17, 18, 19, 20, 21, 22, 23, 24, 25, 26, 27, 28, 29, 30, 31, 32, 33, 34, 35, 36, 37, 38] (by decide +kernel) (by decide +kernel)) (goodIn_sub (fun _ h => List.mem_cons_of_mem _ (List.mem_append_left _ (List.mem_append_right _ h))) (by decide +kernel))) (goodIn_sub (fun _ h => List.mem_cons_of_mem _ (List.mem_append_right _ h)) (by decide +kernel))
set_option maxRecDepth 20000 in
theorem gL_tune_X1_tune : GoodIn wsL_tune (wsV RL 32 RX1 yX1_tune wsX1_tune) := goodIn_app (goodIn_of _ (by decide +kernel)) ggL_tune_X1_tune
theorem dL_tune_0 : decode cL_tune 0 = .ok (.aload_n 2, 1) := by decide +kernel
theorem dL_tune_1 : decode cL_tune 1 = .ok (.iconst 0, 1) := by decide +kernel
theorem dL_tune_2 : decode cL_tune 2 = .ok (.aload_n 0, 1) := by decide +kernel
theorem dL_tune_3 : decode cL_tune 3 = .ok (.iload_n 1, 1) := by decide +kernel
theorem dL_tune_4 : decode cL_tune 4 = .ok (.invokevirtual 32, 3) := by decide +kernel
theorem dL_tune_7 : decode cL_tune 7 = .ok (.i2l, 1) := by decide +kernel
theorem dL_tune_8 : decode cL_tune 8 = .ok (.lastore, 1) := by decide +kernel
theorem dL_tune_9 : decode cL_tune 9 = .ok (.goto 9, 3) := by decide +kernel
theorem dL_tune_12 : decode cL_tune 12 = .ok (.astore_n 3, 1) := by decide +kernel
theorem dL_tune_13 : decode cL_tune 13 = .ok (.iconst 1, 1) := by decide +kernel
theorem dL_tune_14 : decode cL_tune 14 = .ok (.ireturn, 1) := by decide +kernel
theorem dL_tune_15 : decode cL_tune 15 = .ok (.astore_n 3, 1) := by decide +kernel
theorem dL_tune_16 : decode cL_tune 16 = .ok (.iconst 2, 1) := by decide +kernel
theorem dL_tune_17 : decode cL_tune 17 = .ok (.ireturn, 1) := by decide +kernel
theorem dL_tune_18 : decode cL_tune 18 = .ok (.iconst 0, 1) := by decide +kernel
theorem dL_tune_19 : decode cL_tune 19 = .ok (.ireturn, 1) := by decide +kernel
set_option maxRecDepth 20000 in
theorem ggL_sweeten_X1_sweeten : GoodIn wsL_sweeten wsX1_sweeten := goodIn_ca (goodIn_ca (goodIn_r _ [7, 8, 9, 10, 11, 12, 13, 6, 14, 15, 16, 17, 18, 19, 20, 21, 22, 23, 24, 25, 26, 27, 28, 29, 30, 31, 32, 33, 34, 35, 36, 37, 38, 39, 40, 41, 42, 43, 44] (by decide +kernel) (by decide +kernel)) (goodIn_sub (fun _ h => List.mem_cons_of_mem _ (List.mem_append_left _ (List.mem_append_right _ h))) (by decide +kernel))) (goodIn_sub (fun _ h => List.mem_cons_of_mem _ (List.mem_append_right _ h)) (by decide +kernel))
set_option maxRecDepth 20000 in
theorem gL_sweeten_X1_sweeten : GoodIn wsL_sweeten (wsV RL 35 RX1 yX1_sweeten wsX1_sweeten) := goodIn_app (goodIn_of _ (by decide +kernel)) ggL_sweeten_X1_sweeten
theorem dL_sweeten_0 : decode cL_sweeten 0 = .ok (.aload_n 2, 1) := by decide +kernel
theorem dL_sweeten_1 : decode cL_sweeten 1 = .ok (.iconst 0, 1) := by decide +kernel
theorem dL_sweeten_2 : decode cL_sweeten 2 = .ok (.aload_n 0, 1) := by decide +kernel
theorem dL_sweeten_3 : decode cL_sweeten 3 = .ok (.iload_n 1, 1) := by decide +kernel
theorem dL_sweeten_4 : decode cL_sweeten 4 = .ok (.invokevirtual 35, 3) := by decide +kernel
theorem dL_sweeten_7 : decode cL_sweeten 7 = .ok (.i2l, 1) := by decide +kernel
theorem dL_sweeten_8 : decode cL_sweeten 8 = .ok (.lastore, 1) := by decide +kernel
theorem dL_sweeten_9 : decode cL_sweeten 9 = .ok (.goto 9, 3) := by decide +kernel
theorem dL_sweeten_12 : decode cL_sweeten 12 = .ok (.astore_n 3, 1) := by decide +kernel
theorem dL_sweeten_13 : decode cL_sweeten 13 = .ok (.iconst 1, 1) := by decide +kernel
theorem dL_sweeten_14 : decode cL_sweeten 14 = .ok (.ireturn, 1) := by decide +kernel
theorem dL_sweeten_15 : decode cL_sweeten 15 = .ok (.astore_n 3, 1) := by decide +kernel
theorem dL_sweeten_16 : decode cL_sweeten 16 = .ok (.iconst 2, 1) := by decide +kernel
theorem dL_sweeten_17 : decode cL_sweeten 17 = .ok (.ireturn, 1) := by decide +kernel
theorem dL_sweeten_18 : decode cL_sweeten 18 = .ok (.iconst 0, 1) := by decide +kernel
theorem dL_sweeten_19 : decode cL_sweeten 19 = .ok (.ireturn, 1) := by decide +kernel
set_option maxRecDepth 20000 in
theorem ggL_pass_X1_pass : GoodIn wsL_pass wsX1_pass := goodIn_ca (goodIn_r _ [6, 7, 8, 9, 5, 10, 11, 12, 13, 14, 15, 16, 17, 18, 19, 20, 21, 22, 23, 24, 25, 26, 27, 28, 29, 30, 31, 32, 33, 34, 35, 36, 37, 38, 39, 40, 41, 42] (by decide +kernel) (by decide +kernel)) (goodIn_sub (fun _ h => List.mem_cons_of_mem _ (List.mem_append_right _ h)) (by decide +kernel))
set_option maxRecDepth 20000 in
theorem gL_pass_X1_pass : GoodIn wsL_pass (wsV RL 38 RX1 yX1_pass wsX1_pass) := goodIn_app (goodIn_of _ (by decide +kernel)) ggL_pass_X1_pass
theorem dL_pass_0 : decode cL_pass 0 = .ok (.aload_n 2, 1) := by decide +kernel
theorem dL_pass_1 : decode cL_pass 1 = .ok (.iconst 0, 1) := by decide +kernel
theorem dL_pass_2 : decode cL_pass 2 = .ok (.aload_n 0, 1) := by decide +kernel
theorem dL_pass_3 : decode cL_pass 3 = .ok (.iload_n 1, 1) := by decide +kernel
theorem dL_pass_4 : decode cL_pass 4 = .ok (.invokevirtual 38, 3) := by decide +kernel
theorem dL_pass_7 : decode cL_pass 7 = .ok (.i2l, 1) := by decide +kernel
theorem dL_pass_8 : decode cL_pass 8 = .ok (.lastore, 1) := by decide +kernel
theorem dL_pass_9 : decode cL_pass 9 = .ok (.goto 6, 3) := by decide +kernel
theorem dL_pass_12 : decode cL_pass 12 = .ok (.astore_n 3, 1) := by decide +kernel
theorem dL_pass_13 : decode cL_pass 13 = .ok (.iconst 1, 1) := by decide +kernel
theorem dL_pass_14 : decode cL_pass 14 = .ok (.ireturn, 1) := by decide +kernel
theorem dL_pass_15 : decode cL_pass 15 = .ok (.iconst 0, 1) := by decide +kernel
theorem dL_pass_16 : decode cL_pass 16 = .ok (.ireturn, 1) := by decide +kernel
set_option maxRecDepth 20000 in
theorem ggL_fifth_X1_fifth : GoodIn wsL_fifth wsX1_fifth := goodIn_ca (goodIn_r _ [6, 7, 8, 9, 5, 10, 11, 12, 13, 14, 15, 16, 17, 18, 19, 20, 21, 22, 23, 24, 25, 26, 27, 28, 29, 30, 31, 32, 33, 34, 35, 36, 37, 38, 39, 40, 41, 42, 43, 44, 45, 46, 47, 48, 49, 50, 51, 52, 53, 54, 55, 56, 57, 58, 59] (by decide +kernel) (by decide +kernel)) (goodIn_sub (fun _ h => List.mem_cons_of_mem _ (List.mem_append_right _ h)) (by decide +kernel))
set_option maxRecDepth 20000 in
theorem gL_fifth_X1_fifth : GoodIn wsL_fifth (wsV RL 41 RX1 yX1_fifth wsX1_fifth) := goodIn_app (goodIn_of _ (by decide +kernel)) ggL_fifth_X1_fifth
theorem dL_fifth_0 : decode cL_fifth 0 = .ok (.aload_n 3, 1) := by decide +kernel
theorem dL_fifth_1 : decode cL_fifth 1 = .ok (.iconst 0, 1) := by decide +kernel
theorem dL_fifth_2 : decode cL_fifth 2 = .ok (.aload_n 0, 1) := by decide +kernel
theorem dL_fifth_3 : decode cL_fifth 3 = .ok (.iload_n 1, 1) := by decide +kernel
theorem dL_fifth_4 : decode cL_fifth 4 = .ok (.iload_n 2, 1) := by decide +kernel
theorem dL_fifth_5 : decode cL_fifth 5 = .ok (.invokevirtual 41, 3) := by decide +kernel
theorem dL_fifth_8 : decode cL_fifth 8 = .ok (.i2l, 1) := by decide +kernel
theorem dL_fifth_9 : decode cL_fifth 9 = .ok (.lastore, 1) := by decide +kernel
theorem dL_fifth_10 : decode cL_fifth 10 = .ok (.goto 7, 3) := by decide +kernel
theorem dL_fifth_13 : decode cL_fifth 13 = .ok (.astore 4, 2) := by decide +kernel
theorem dL_fifth_15 : decode cL_fifth 15 = .ok (.iconst 1, 1) := by decide +kernel
theorem dL_fifth_16 : decode cL_fifth 16 = .ok (.ireturn, 1) := by decide +kernel
theorem dL_fifth_17 : decode cL_fifth 17 = .ok (.iconst 0, 1) := by decide +kernel
theorem dL_fifth_18 : decode cL_fifth 18 = .ok (.ireturn, 1) := by decide +kernel
set_option maxRecDepth 20000 in
theorem ggL_major_X1_major : GoodIn wsL_major wsX1_major := goodIn_ca (goodIn_r _ [6, 7, 8, 9, 5, 10, 11, 12, 13, 14, 15, 16, 17, 18, 19, 20, 21, 22, 23, 24, 25, 26, 27, 28, 29, 30, 31, 32, 33, 34, 35, 36, 37, 38, 39, 40, 41, 42, 43, 44, 45, 46, 47, 48, 49, 50, 51, 52, 53, 54, 55, 56, 57, 58] (by decide +kernel) (by decide +kernel)) (goodIn_sub (fun _ h => List.mem_cons_of_mem _ (List.mem_append_right _ h)) (by decide +kernel))
set_option maxRecDepth 20000 in
theorem gL_major_X1_major : GoodIn wsL_major (wsV RL 44 RX1 yX1_major wsX1_major) := goodIn_app (goodIn_of _ (by decide +kernel)) ggL_major_X1_major
theorem dL_major_0 : decode cL_major 0 = .ok (.aload_n 3, 1) := by decide +kernel
theorem dL_major_1 : decode cL_major 1 = .ok (.iconst 0, 1) := by decide +kernel
theorem dL_major_2 : decode cL_major 2 = .ok (.aload_n 0, 1) := by decide +kernel
theorem dL_major_3 : decode cL_major 3 = .ok (.iload_n 1, 1) := by decide +kernel
theorem dL_major_4 : decode cL_major 4 = .ok (.iload_n 2, 1) := by decide +kernel
theorem dL_major_5 : decode cL_major 5 = .ok (.invokevirtual 44, 3) := by decide +kernel
theorem dL_major_8 : decode cL_major 8 = .ok (.i2l, 1) := by decide +kernel
theorem dL_major_9 : decode cL_major 9 = .ok (.lastore, 1) := by decide +kernel
theorem dL_major_10 : decode cL_major 10 = .ok (.goto 7, 3) := by decide +kernel
theorem dL_major_13 : decode cL_major 13 = .ok (.astore 4, 2) := by decide +kernel
theorem dL_major_15 : decode cL_major 15 = .ok (.iconst 1, 1) := by decide +kernel
theorem dL_major_16 : decode cL_major 16 = .ok (.ireturn, 1) := by decide +kernel
theorem dL_major_17 : decode cL_major 17 = .ok (.iconst 0, 1) := by decide +kernel
theorem dL_major_18 : decode cL_major 18 = .ok (.ireturn, 1) := by decide +kernel
set_option maxRecDepth 20000 in
theorem ggL_minor_X1_minor : GoodIn wsL_minor wsX1_minor := goodIn_ca (goodIn_r _ [6, 7, 8, 9, 5, 10, 11, 12, 13, 14, 15, 16, 17, 18, 19, 20, 21, 22, 23, 24, 25, 26, 27, 28, 29, 30, 31, 32, 33, 34, 35, 36, 37, 38, 39, 40, 41, 42] (by decide +kernel) (by decide +kernel)) (goodIn_sub (fun _ h => List.mem_cons_of_mem _ (List.mem_append_right _ h)) (by decide +kernel))
set_option maxRecDepth 20000 in
theorem gL_minor_X1_minor : GoodIn wsL_minor (wsV RL 47 RX1 yX1_minor wsX1_minor) := goodIn_app (goodIn_of _ (by decide +kernel)) ggL_minor_X1_minor
theorem dL_minor_0 : decode cL_minor 0 = .ok (.aload_n 3, 1) := by decide +kernel
theorem dL_minor_1 : decode cL_minor 1 = .ok (.iconst 0, 1) := by decide +kernel
theorem dL_minor_2 : decode cL_minor 2 = .ok (.aload_n 0, 1) := by decide +kernel
theorem dL_minor_3 : decode cL_minor 3 = .ok (.iload_n 1, 1) := by decide +kernel
theorem dL_minor_4 : decode cL_minor 4 = .ok (.iload_n 2, 1) := by decide +kernel
theorem dL_minor_5 : decode cL_minor 5 = .ok (.invokevirtual 47, 3) := by decide +kernel
theorem dL_minor_8 : decode cL_minor 8 = .ok (.i2l, 1) := by decide +kernel
theorem dL_minor_9 : decode cL_minor 9 = .ok (.lastore, 1) := by decide +kernel
theorem dL_minor_10 : decode cL_minor 10 = .ok (.goto 7, 3) := by decide +kernel
theorem dL_minor_13 : decode cL_minor 13 = .ok (.astore 4, 2) := by decide +kernel
theorem dL_minor_15 : decode cL_minor 15 = .ok (.iconst 1, 1) := by decide +kernel
theorem dL_minor_16 : decode cL_minor 16 = .ok (.ireturn, 1) := by decide +kernel
theorem dL_minor_17 : decode cL_minor 17 = .ok (.iconst 0, 1) := by decide +kernel
theorem dL_minor_18 : decode cL_minor 18 = .ok (.ireturn, 1) := by decide +kernel
set_option maxRecDepth 20000 in
theorem ggL_note_X1_note : GoodIn wsL_note wsX1_note := goodIn_ca (goodIn_r _ [6, 7, 8, 9, 5, 10, 11, 12, 13, 14, 15, 16, 17, 18, 19, 20, 21, 22, 23, 24, 25, 26, 27, 28, 29, 30, 31, 32, 33, 34, 35, 36, 37, 38, 39, 40, 41, 42, 43, 44, 45, 46, 47, 48, 49, 50, 51, 52, 53, 54, 55] (by decide +kernel) (by decide +kernel)) (goodIn_sub (fun _ h => List.mem_cons_of_mem _ (List.mem_append_right _ h)) (by decide +kernel))
set_option maxRecDepth 20000 in
theorem gL_note_X1_note : GoodIn wsL_note (wsV RL 50 RX1 yX1_note wsX1_note) := goodIn_app (goodIn_of _ (by decide +kernel)) ggL_note_X1_note
theorem dL_note_0 : decode cL_note 0 = .ok (.aload_n 3, 1) := by decide +kernel
theorem dL_note_1 : decode cL_note 1 = .ok (.iconst 0, 1) := by decide +kernel
theorem dL_note_2 : decode cL_note 2 = .ok (.aload_n 0, 1) := by decide +kernel
theorem dL_note_3 : decode cL_note 3 = .ok (.iload_n 1, 1) := by decide +kernel
theorem dL_note_4 : decode cL_note 4 = .ok (.iload_n 2, 1) := by decide +kernel
theorem dL_note_5 : decode cL_note 5 = .ok (.invokevirtual 50, 3) := by decide +kernel
theorem dL_note_8 : decode cL_note 8 = .ok (.i2l, 1) := by decide +kernel
theorem dL_note_9 : decode cL_note 9 = .ok (.lastore, 1) := by decide +kernel
theorem dL_note_10 : decode cL_note 10 = .ok (.goto 7, 3) := by decide +kernel
theorem dL_note_13 : decode cL_note 13 = .ok (.astore 4, 2) := by decide +kernel
theorem dL_note_15 : decode cL_note 15 = .ok (.iconst 1, 1) := by decide +kernel
theorem dL_note_16 : decode cL_note 16 = .ok (.ireturn, 1) := by decide +kernel
theorem dL_note_17 : decode cL_note 17 = .ok (.iconst 0, 1) := by decide +kernel
theorem dL_note_18 : decode cL_note 18 = .ok (.ireturn, 1) := by decide +kernel
set_option maxRecDepth 20000 in
theorem ggL_key_X1_key : GoodIn wsL_key wsX1_key := goodIn_ca (goodIn_r _ [6, 7, 8, 9, 5, 10, 11, 12, 13, 14, 15, 16, 17, 18, 19, 20, 21, 22, 23, 24, 25, 26, 27, 28, 29, 30, 31, 32, 33, 34, 35, 36, 37, 38, 39, 40, 41, 42, 43, 44, 45, 46, 47, 48, 49, 50, 51, 52, 53, 54, 55] (by decide +kernel) (by decide +kernel)) (goodIn_sub (fun _ h => List.mem_cons_of_mem _ (List.mem_append_right _ h)) (by decide +kernel))
set_option maxRecDepth 20000 in
theorem gL_key_X1_key : GoodIn wsL_key (wsV RL 53 RX1 yX1_key wsX1_key) := goodIn_app (goodIn_of _ (by decide +kernel)) ggL_key_X1_key
theorem dL_key_0 : decode cL_key 0 = .ok (.aload_n 3, 1) := by decide +kernel
theorem dL_key_1 : decode cL_key 1 = .ok (.iconst 0, 1) := by decide +kernel
theorem dL_key_2 : decode cL_key 2 = .ok (.aload_n 0, 1) := by decide +kernel
theorem dL_key_3 : decode cL_key 3 = .ok (.iload_n 1, 1) := by decide +kernel
theorem dL_key_4 : decode cL_key 4 = .ok (.iload_n 2, 1) := by decide +kernel
theorem dL_key_5 : decode cL_key 5 = .ok (.invokevirtual 53, 3) := by decide +kernel
theorem dL_key_8 : decode cL_key 8 = .ok (.i2l, 1) := by decide +kernel
theorem dL_key_9 : decode cL_key 9 = .ok (.lastore, 1) := by decide +kernel
theorem dL_key_10 : decode cL_key 10 = .ok (.goto 7, 3) := by decide +kernel
theorem dL_key_13 : decode cL_key 13 = .ok (.astore 4, 2) := by decide +kernel
theorem dL_key_15 : decode cL_key 15 = .ok (.iconst 1, 1) := by decide +kernel
theorem dL_key_16 : decode cL_key 16 = .ok (.ireturn, 1) := by decide +kernel
theorem dL_key_17 : decode cL_key 17 = .ok (.iconst 0, 1) := by decide +kernel
theorem dL_key_18 : decode cL_key 18 = .ok (.ireturn, 1) := by decide +kernel
set_option maxRecDepth 20000 in
theorem ggL_count_X1_count : GoodIn wsL_count wsX1_count := goodIn_ca (goodIn_r _ [6, 7, 8, 9, 5, 10, 11, 12, 13, 14, 15, 16, 17, 18, 19, 20, 21, 22, 23, 24, 25, 26, 27, 28, 29, 30, 31, 32, 33, 34, 35, 36, 37, 38, 39, 40, 41, 42, 43, 44, 45, 46, 47, 48, 49, 50, 51, 52, 53, 54, 55, 56, 57, 58, 59, 60, 61, 62, 63, 64, 65, 66, 67, 68, 69, 70, 71, 72, 73, 74, 75, 76, 77, 78, 79, 80, 81, 82, 83, 84, 85] (by decide +kernel) (by decide +kernel)) (goodIn_sub (fun _ h => List.mem_cons_of_mem _ (List.mem_append_right _ h)) (by decide +kernel))
set_option maxRecDepth 20000 in
theorem gL_count_X1_count : GoodIn wsL_count (wsV RL 56 RX1 yX1_count wsX1_count) := goodIn_app (goodIn_of _ (by decide +kernel)) ggL_count_X1_count
theorem dL_count_0 : decode cL_count 0 = .ok (.aload_n 2, 1) := by decide +kernel
theorem dL_count_1 : decode cL_count 1 = .ok (.iconst 0, 1) := by decide +kernel
theorem dL_count_2 : decode cL_count 2 = .ok (.aload_n 0, 1) := by decide +kernel
theorem dL_count_3 : decode cL_count 3 = .ok (.iload_n 1, 1) := by decide +kernel
theorem dL_count_4 : decode cL_count 4 = .ok (.invokevirtual 56, 3) := by decide +kernel
theorem dL_count_7 : decode cL_count 7 = .ok (.i2l, 1) := by decide +kernel
theorem dL_count_8 : decode cL_count 8 = .ok (.lastore, 1) := by decide +kernel
theorem dL_count_9 : decode cL_count 9 = .ok (.goto 6, 3) := by decide +kernel
theorem dL_count_12 : decode cL_count 12 = .ok (.astore_n 3, 1) := by decide +kernel
theorem dL_count_13 : decode cL_count 13 = .ok (.iconst 1, 1) := by decide +kernel
theorem dL_count_14 : decode cL_count 14 = .ok (.ireturn, 1) := by decide +kernel
theorem dL_count_15 : decode cL_count 15 = .ok (.iconst 0, 1) := by decide +kernel
theorem dL_count_16 : decode cL_count 16 = .ok (.ireturn, 1) := by decide +kernel
set_option maxRecDepth 20000 in
theorem ggL_foresee_X1_foresee : GoodIn wsL_foresee wsX1_foresee := goodIn_ca (goodIn_ca (goodIn_r _ [7, 8, 9, 10, 6, 11, 12, 13, 14, 15, 16, 17, 18, 19, 20, 21, 22, 23, 24, 25, 26, 27, 28, 29, 30, 31, 32, 33, 34, 35, 36, 37, 38, 39, 40, 41, 42, 43, 44, 45, 46, 47, 48, 49, 50, 51, 52, 53, 54, 55, 56, 57, 58, 59, 60, 61, 62, 63, 64, 65, 66, 67, 68, 69, 70, 71, 72, 73, 74, 75, 76, 77, 78, 79, 80, 81, 82, 83, 84, 85, 86, 87, 88, 89, 90, 91, 92, 93, 94, 95, 96, 97, 98, 99, 100, 101, 102, 103, 104, 105, 106, 107, 108, 109, 110] (by decide +kernel) (by decide +kernel)) (goodIn_sub (fun _ h => List.mem_cons_of_mem _ (List.mem_append_left _ (List.mem_append_right _ h))) (by decide +kernel))) (goodIn_sub (fun _ h => List.mem_cons_of_mem _ (List.mem_append_right _ h)) (by decide +kernel))
set_option maxRecDepth 20000 in
theorem gL_foresee_X1_foresee : GoodIn wsL_foresee (wsV RL 59 RX1 yX1_foresee wsX1_foresee) := goodIn_app (goodIn_of _ (by decide +kernel)) ggL_foresee_X1_foresee
theorem dL_foresee_0 : decode cL_foresee 0 = .ok (.aload_n 3, 1) := by decide +kernel
theorem dL_foresee_1 : decode cL_foresee 1 = .ok (.iconst 0, 1) := by decide +kernel
theorem dL_foresee_2 : decode cL_foresee 2 = .ok (.aload_n 0, 1) := by decide +kernel
theorem dL_foresee_3 : decode cL_foresee 3 = .ok (.iload_n 1, 1) := by decide +kernel
theorem dL_foresee_4 : decode cL_foresee 4 = .ok (.iload_n 2, 1) := by decide +kernel
theorem dL_foresee_5 : decode cL_foresee 5 = .ok (.invokevirtual 59, 3) := by decide +kernel
theorem dL_foresee_8 : decode cL_foresee 8 = .ok (.i2l, 1) := by decide +kernel
theorem dL_foresee_9 : decode cL_foresee 9 = .ok (.lastore, 1) := by decide +kernel
theorem dL_foresee_10 : decode cL_foresee 10 = .ok (.goto 11, 3) := by decide +kernel
theorem dL_foresee_13 : decode cL_foresee 13 = .ok (.astore 4, 2) := by decide +kernel
theorem dL_foresee_15 : decode cL_foresee 15 = .ok (.iconst 1, 1) := by decide +kernel
theorem dL_foresee_16 : decode cL_foresee 16 = .ok (.ireturn, 1) := by decide +kernel
theorem dL_foresee_17 : decode cL_foresee 17 = .ok (.astore 4, 2) := by decide +kernel
theorem dL_foresee_19 : decode cL_foresee 19 = .ok (.iconst 2, 1) := by decide +kernel
theorem dL_foresee_20 : decode cL_foresee 20 = .ok (.ireturn, 1) := by decide +kernel
theorem dL_foresee_21 : decode cL_foresee 21 = .ok (.iconst 0, 1) := by decide +kernel
theorem dL_foresee_22 : decode cL_foresee 22 = .ok (.ireturn, 1) := by decide +kernel
set_option maxRecDepth 20000 in
theorem ggL_until_X1_until : GoodIn wsL_until wsX1_until := goodIn_ca (goodIn_r _ [6, 7, 8, 9, 5, 10, 11, 12, 13, 14, 15, 16, 17, 18, 19, 20, 21, 22, 23, 24, 25, 26, 27, 28, 29, 30, 31, 32, 33, 34, 35, 36, 37, 38, 39, 40, 41, 42, 43, 44, 45, 46, 47, 48, 49, 50, 51, 52, 53, 54, 55, 56, 57, 58, 59, 60, 61, 62, 63, 64, 65, 66, 67, 68, 69, 70, 71, 72, 73, 74, 75] (by decide +kernel) (by decide +kernel)) (goodIn_sub (fun _ h => List.mem_cons_of_mem _ (List.mem_append_right _ h)) (by decide +kernel))
set_option maxRecDepth 20000 in
theorem gL_until_X1_until : GoodIn wsL_until (wsV RL 62 RX1 yX1_until wsX1_until) := goodIn_app (goodIn_of _ (by decide +kernel)) ggL_until_X1_until
theorem dL_until_0 : decode cL_until 0 = .ok (.aload_n 2, 1) := by decide +kernel
theorem dL_until_1 : decode cL_until 1 = .ok (.iconst 0, 1) := by decide +kernel
theorem dL_until_2 : decode cL_until 2 = .ok (.aload_n 0, 1) := by decide +kernel
theorem dL_until_3 : decode cL_until 3 = .ok (.iload_n 1, 1) := by decide +kernel
theorem dL_until_4 : decode cL_until 4 = .ok (.invokevirtual 62, 3) := by decide +kernel
theorem dL_until_7 : decode cL_until 7 = .ok (.i2l, 1) := by decide +kernel
theorem dL_until_8 : decode cL_until 8 = .ok (.lastore, 1) := by decide +kernel
theorem dL_until_9 : decode cL_until 9 = .ok (.goto 6, 3) := by decide +kernel
theorem dL_until_12 : decode cL_until 12 = .ok (.astore_n 3, 1) := by decide +kernel
theorem dL_until_13 : decode cL_until 13 = .ok (.iconst 1, 1) := by decide +kernel
theorem dL_until_14 : decode cL_until 14 = .ok (.ireturn, 1) := by decide +kernel
theorem dL_until_15 : decode cL_until 15 = .ok (.iconst 0, 1) := by decide +kernel
theorem dL_until_16 : decode cL_until 16 = .ok (.ireturn, 1) := by decide +kernel
set_option maxRecDepth 20000 in
theorem ggL_temper_X1_temper : GoodIn wsL_temper wsX1_temper := goodIn_ca (goodIn_ca (goodIn_r _ [7, 8, 9, 6, 10, 11, 12, 13, 14, 15, 16, 17, 18, 19, 20, 21, 22, 23, 24, 25, 26, 27, 28, 29, 30, 31, 32, 33, 34, 35, 36, 37, 38, 39, 40, 41, 42, 43, 44, 45, 46, 47, 48, 49, 50, 51, 52, 53, 54, 55, 56, 57, 58, 59, 60, 61, 62, 63, 64, 65, 66, 67, 68, 69, 70, 71, 72, 73, 74, 75, 76, 77, 78, 79] (by decide +kernel) (by decide +kernel)) (goodIn_sub (fun _ h => List.mem_cons_of_mem _ (List.mem_append_left _ (List.mem_append_right _ h))) (by decide +kernel))) (goodIn_sub (fun _ h => List.mem_cons_of_mem _ (List.mem_append_right _ h)) (by decide +kernel))
set_option maxRecDepth 20000 in
theorem gL_temper_X1_temper : GoodIn wsL_temper (wsV RL 65 RX1 yX1_temper wsX1_temper) := goodIn_app (goodIn_of _ (by decide +kernel)) ggL_temper_X1_temper
theorem dL_temper_0 : decode cL_temper 0 = .ok (.aload_n 2, 1) := by decide +kernel
theorem dL_temper_1 : decode cL_temper 1 = .ok (.iconst 0, 1) := by decide +kernel
theorem dL_temper_2 : decode cL_temper 2 = .ok (.aload_n 0, 1) := by decide +kernel
theorem dL_temper_3 : decode cL_temper 3 = .ok (.iload_n 1, 1) := by decide +kernel
theorem dL_temper_4 : decode cL_temper 4 = .ok (.invokevirtual 65, 3) := by decide +kernel
theorem dL_temper_7 : decode cL_temper 7 = .ok (.i2l, 1) := by decide +kernel
theorem dL_temper_8 : decode cL_temper 8 = .ok (.lastore, 1) := by decide +kernel
theorem dL_temper_9 : decode cL_temper 9 = .ok (.goto 9, 3) := by decide +kernel
theorem dL_temper_12 : decode cL_temper 12 = .ok (.astore_n 3, 1) := by decide +kernel
theorem dL_temper_13 : decode cL_temper 13 = .ok (.iconst 1, 1) := by decide +kernel
theorem dL_temper_14 : decode cL_temper 14 = .ok (.ireturn, 1) := by decide +kernel
theorem dL_temper_15 : decode cL_temper 15 = .ok (.astore_n 3, 1) := by decide +kernel
theorem dL_temper_16 : decode cL_temper 16 = .ok (.iconst 2, 1) := by decide +kernel
theorem dL_temper_17 : decode cL_temper 17 = .ok (.ireturn, 1) := by decide +kernel
theorem dL_temper_18 : decode cL_temper 18 = .ok (.iconst 0, 1) := by decide +kernel
theorem dL_temper_19 : decode cL_temper 19 = .ok (.ireturn, 1) := by decide +kernel
set_option maxRecDepth 20000 in
theorem ggL_law_X1_init : GoodIn wsL_law wsX1_init := goodIn_r _ [9, 10, 11, 12, 13, 14, 15, 16, 17, 18, 19, 20, 21, 22, 23, 24, 25, 26, 27, 28, 597, 598, 599, 600, 601, 602, 588, 589] (by decide +kernel) (by decide +kernel)
set_option maxRecDepth 20000 in
theorem gL_law_X1_init : GoodIn wsL_law (wsX1_init) := ggL_law_X1_init
set_option maxRecDepth 20000 in
theorem ggL_law_X2_init : GoodIn wsL_law wsX2_init := goodIn_r _ [31, 32, 11, 12, 33, 22, 34, 35, 36, 37, 590, 591, 592, 593, 594, 595, 596] (by decide +kernel) (by decide +kernel)
set_option maxRecDepth 20000 in
theorem gL_law_X2_init : GoodIn wsL_law (wsX2_init) := ggL_law_X2_init
set_option maxRecDepth 20000 in
theorem ggL_law_L_setFifth : GoodIn wsL_law wsL_setFifth := goodIn_ca (goodIn_ca (goodIn_ca (goodIn_r _ [41, 42, 43, 44, 45, 46, 47, 2, 48, 16, 49, 50, 51, 52, 53, 54, 55, 56, 57, 58, 59, 60, 61, 62, 63, 64, 65, 66, 67, 68, 69, 15, 70, 23, 71, 72, 73, 74, 75, 76, 77, 78, 27, 588, 589, 597, 598, 599, 600, 601, 602] (by decide +kernel) (by decide +kernel)) (goodIn_sub (fun _ h => List.mem_append_left _ (List.mem_append_left _ (List.mem_append_right _ h))) (by decide +kernel))) (goodIn_sub (fun _ h => List.mem_append_left _ (List.mem_append_right _ h)) (by decide +kernel))) (goodIn_sub (fun _ h => List.mem_append_right _ h) (by decide +kernel))
set_option maxRecDepth 20000 in
theorem gL_law_L_setFifth : GoodIn wsL_law (va_wsS RL 72 yL_setFifth wsL_setFifth) := goodIn_app (goodIn_of _ (by decide +kernel)) ggL_law_L_setFifth
set_option maxRecDepth 20000 in
theorem ggL_law_X2_setFifth : GoodIn wsL_law wsX2_setFifth := goodIn_r _ [82, 83, 33, 34, 84, 85, 5, 86, 87, 88, 89, 90, 91, 92, 93, 590, 591, 592, 593, 594, 595, 596] (by decide +kernel) (by decide +kernel)
set_option maxRecDepth 20000 in
theorem gL_law_X2_setFifth : GoodIn wsL_law (wsV RL 77 RX2 yX2_setFifth wsX2_setFifth) := goodIn_app (goodIn_of _ (by decide +kernel)) ggL_law_X2_setFifth
set_option maxRecDepth 20000 in
theorem ggL_law_X2_thrown : GoodIn wsL_law wsX2_thrown := goodIn_r _ [97, 83, 590, 591, 592, 593, 594, 595, 596] (by decide +kernel) (by decide +kernel)
set_option maxRecDepth 20000 in
theorem gL_law_X2_thrown : GoodIn wsL_law (wsV RL 78 RX2 yX2_thrown wsX2_thrown) := goodIn_app (goodIn_of _ (by decide +kernel)) ggL_law_X2_thrown
set_option maxRecDepth 20000 in
theorem ggL_law_L_shift : GoodIn wsL_law wsL_shift := goodIn_ca (goodIn_r _ [100, 42, 101, 102, 103, 2, 104, 16, 66, 50, 51, 52, 53, 54, 105, 106, 107, 15, 108, 27, 23, 71, 72, 73, 74, 588, 589, 597, 598, 599, 600, 601, 602] (by decide +kernel) (by decide +kernel)) (goodIn_sub (fun _ h => List.mem_append_left _ (List.mem_append_left _ (List.mem_append_right _ h))) (by decide +kernel))
set_option maxRecDepth 20000 in
theorem gL_law_L_shift : GoodIn wsL_law (va_wsS RL 82 yL_shift wsL_shift) := goodIn_app (goodIn_of _ (by decide +kernel)) ggL_law_L_shift
set_option maxRecDepth 20000 in
theorem ggL_law_X2_shift : GoodIn wsL_law wsX2_shift := goodIn_r _ [112, 83, 33, 84, 85, 5, 86, 87, 88, 89, 90, 91, 92, 93, 113, 114, 115, 116, 34, 117, 118, 119, 120, 590, 591, 592, 593, 594, 595, 596] (by decide +kernel) (by decide +kernel)
set_option maxRecDepth 20000 in
theorem gL_law_X2_shift : GoodIn wsL_law (wsV RL 85 RX2 yX2_shift wsX2_shift) := goodIn_app (goodIn_of _ (by decide +kernel)) ggL_law_X2_shift
set_option maxRecDepth 20000 in
theorem ggL_law_L_spread : GoodIn wsL_law wsL_spread := goodIn_ca (goodIn_r _ [123, 43, 124, 125, 126, 2, 127, 16, 55, 56, 57, 58, 59, 128, 129, 130, 15, 131, 23, 27, 71, 72, 73, 74, 132, 133, 134, 135, 75, 76, 77, 78, 588, 589, 597, 598, 599, 600, 601, 602] (by decide +kernel) (by decide +kernel)) (goodIn_sub (fun _ h => List.mem_append_left _ (List.mem_append_right _ h)) (by decide +kernel))
set_option maxRecDepth 20000 in
theorem gL_law_L_spread : GoodIn wsL_law (va_wsS RL 86 yL_spread wsL_spread) := goodIn_app (goodIn_of _ (by decide +kernel)) ggL_law_L_spread
set_option maxRecDepth 20000 in
theorem ggL_law_X2_spread : GoodIn wsL_law wsX2_spread := goodIn_r _ [139, 83, 33, 34, 87, 88, 5, 89, 90, 91, 92, 93, 117, 118, 119, 120, 590, 591, 592, 593, 594, 595, 596] (by decide +kernel) (by decide +kernel)
set_option maxRecDepth 20000 in
theorem gL_law_X2_spread : GoodIn wsL_law (wsV RL 88 RX2 yX2_spread wsX2_spread) := goodIn_app (goodIn_of _ (by decide +kernel)) ggL_law_X2_spread
set_option maxRecDepth 20000 in
theorem ggL_law_L_setOften : GoodIn wsL_law wsL_setOften := goodIn_ca (goodIn_ca (goodIn_r _ [142, 42, 43, 143, 144, 145, 2, 146, 16, 147, 50, 51, 52, 53, 54, 55, 56, 57, 58, 59, 588, 589, 597, 598, 599, 600, 601, 602] (by decide +kernel) (by decide +kernel)) (goodIn_sub (fun _ h => List.mem_append_left _ (List.mem_append_left _ (List.mem_append_right _ h))) (by decide +kernel))) (goodIn_sub (fun _ h => List.mem_append_left _ (List.mem_append_right _ h)) (by decide +kernel))
set_option maxRecDepth 20000 in
theorem gL_law_L_setOften : GoodIn wsL_law (va_wsS RL 89 yL_setOften wsL_setOften) := goodIn_app (goodIn_of _ (by decide +kernel)) ggL_law_L_setOften
set_option maxRecDepth 20000 in
theorem ggL_law_X2_setOften : GoodIn wsL_law wsX2_setOften := goodIn_r _ [151, 83, 36, 84, 85, 5, 86, 87, 88, 89, 90, 91, 92, 93, 590, 591, 592, 593, 594, 595, 596] (by decide +kernel) (by decide +kernel)
set_option maxRecDepth 20000 in
theorem gL_law_X2_setOften : GoodIn wsL_law (wsV RL 91 RX2 yX2_setOften wsX2_setOften) := goodIn_app (goodIn_of _ (by decide +kernel)) ggL_law_X2_setOften
set_option maxRecDepth 20000 in
theorem ggL_law_L_setDrift : GoodIn wsL_law wsL_setDrift := goodIn_ca (goodIn_ca (goodIn_r _ [154, 42, 43, 155, 156, 157, 2, 158, 16, 159, 50, 51, 52, 53, 54, 55, 56, 57, 58, 59, 588, 589, 597, 598, 599, 600, 601, 602] (by decide +kernel) (by decide +kernel)) (goodIn_sub (fun _ h => List.mem_append_left _ (List.mem_append_left _ (List.mem_append_right _ h))) (by decide +kernel))) (goodIn_sub (fun _ h => List.mem_append_left _ (List.mem_append_right _ h)) (by decide +kernel))
set_option maxRecDepth 20000 in
theorem gL_law_L_setDrift : GoodIn wsL_law (va_wsS RL 92 yL_setDrift wsL_setDrift) := goodIn_app (goodIn_of _ (by decide +kernel)) ggL_law_L_setDrift
set_option maxRecDepth 20000 in
theorem ggL_law_X2_setDrift : GoodIn wsL_law wsX2_setDrift := goodIn_r _ [163, 83, 35, 84, 85, 5, 86, 87, 88, 89, 90, 91, 92, 93, 590, 591, 592, 593, 594, 595, 596] (by decide +kernel) (by decide +kernel)
set_option maxRecDepth 20000 in
theorem gL_law_X2_setDrift : GoodIn wsL_law (wsV RL 94 RX2 yX2_setDrift wsX2_setDrift) := goodIn_app (goodIn_of _ (by decide +kernel)) ggL_law_X2_setDrift
set_option maxRecDepth 20000 in
theorem ggL_law_L_tune : GoodIn wsL_law wsL_tune := goodIn_ca (goodIn_ca (goodIn_r _ [166, 42, 44, 167, 168, 169, 2, 170, 64, 65, 16, 50, 51, 52, 53, 54, 171, 172, 173, 15, 174, 27, 71, 72, 73, 74, 175, 176, 177, 178, 24, 588, 589, 597, 598, 599, 600, 601, 602] (by decide +kernel) (by decide +kernel)) (goodIn_sub (fun _ h => List.mem_append_right _ h) (by decide +kernel))) (goodIn_sub (fun _ h => List.mem_append_left _ (List.mem_append_left _ (List.mem_append_right _ h))) (by decide +kernel))
set_option maxRecDepth 20000 in
theorem gL_law_L_tune : GoodIn wsL_law (va_wsS RL 95 yL_tune wsL_tune) := goodIn_app (goodIn_of _ (by decide +kernel)) ggL_law_L_tune
set_option maxRecDepth 20000 in
theorem ggL_law_X2_tune : GoodIn wsL_law wsX2_tune := goodIn_r _ [182, 83, 84, 85, 5, 86, 87, 88, 89, 90, 91, 92, 93, 183, 184, 185, 186, 33, 187, 188, 189, 190, 191, 192, 193, 37, 590, 591, 592, 593, 594, 595, 596] (by decide +kernel) (by decide +kernel)
set_option maxRecDepth 20000 in
theorem gL_law_X2_tune : GoodIn wsL_law (wsV RL 97 RX2 yX2_tune wsX2_tune) := goodIn_app (goodIn_of _ (by decide +kernel)) ggL_law_X2_tune
set_option maxRecDepth 20000 in
theorem ggL_law_X1_tuneAll : GoodIn wsL_law wsX1_tuneAll := goodIn_r _ [197, 16, 198, 199, 200, 15, 201, 27, 202, 176, 177, 178, 24, 71, 72, 73, 74, 588, 589, 597, 598, 599, 600, 601, 602] (by decide +kernel) (by decide +kernel)
set_option maxRecDepth 20000 in
theorem gL_law_X1_tuneAll : GoodIn wsL_law (wsV RL 98 RX1 yX1_tuneAll wsX1_tuneAll) := goodIn_app (goodIn_of _ (by decide +kernel)) ggL_law_X1_tuneAll
set_option maxRecDepth 20000 in
theorem ggL_law_X2_tuneAll : GoodIn wsL_law wsX2_tuneAll := goodIn_r _ [206, 83, 33, 190, 191, 192, 5, 193, 37, 187, 188, 189, 590, 591, 592, 593, 594, 595, 596] (by decide +kernel) (by decide +kernel)
set_option maxRecDepth 20000 in
theorem gL_law_X2_tuneAll : GoodIn wsL_law (wsV RL 101 RX2 yX2_tuneAll wsX2_tuneAll) := goodIn_app (goodIn_of _ (by decide +kernel)) ggL_law_X2_tuneAll
set_option maxRecDepth 20000 in
theorem ggL_law_L_sweeten : GoodIn wsL_law wsL_sweeten := goodIn_ca (goodIn_ca (goodIn_r _ [209, 42, 44, 210, 211, 212, 2, 213, 64, 65, 16, 214, 50, 51, 52, 53, 54, 215, 216, 217, 15, 218, 24, 71, 72, 73, 74, 219, 220, 221, 222, 223, 224, 225, 226, 23, 227, 588, 589, 597, 598, 599, 600, 601, 602] (by decide +kernel) (by decide +kernel)) (goodIn_sub (fun _ h => List.mem_append_right _ h) (by decide +kernel))) (goodIn_sub (fun _ h => List.mem_append_left _ (List.mem_append_left _ (List.mem_append_right _ h))) (by decide +kernel))
set_option maxRecDepth 20000 in
theorem gL_law_L_sweeten : GoodIn wsL_law (va_wsS RL 102 yL_sweeten wsL_sweeten) := goodIn_app (goodIn_of _ (by decide +kernel)) ggL_law_L_sweeten
set_option maxRecDepth 20000 in
theorem ggL_law_X2_sweeten : GoodIn wsL_law wsX2_sweeten := goodIn_r _ [231, 83, 37, 84, 85, 5, 86, 87, 88, 89, 90, 91, 92, 93, 232, 233, 234, 235, 236, 237, 238, 239, 240, 241, 242, 243, 117, 118, 119, 120, 33, 34, 244, 245, 246, 247, 248, 249, 250, 251, 252, 253, 590, 591, 592, 593, 594, 595, 596] (by decide +kernel) (by decide +kernel)
set_option maxRecDepth 20000 in
theorem gL_law_X2_sweeten : GoodIn wsL_law (wsV RL 104 RX2 yX2_sweeten wsX2_sweeten) := goodIn_app (goodIn_of _ (by decide +kernel)) ggL_law_X2_sweeten
set_option maxRecDepth 20000 in
theorem ggL_law_L_pass : GoodIn wsL_law wsL_pass := goodIn_ca (goodIn_r _ [256, 43, 257, 258, 259, 2, 260, 16, 55, 56, 57, 58, 59, 261, 262, 263, 15, 264, 24, 25, 265, 248, 249, 250, 266, 252, 253, 28, 267, 268, 269, 270, 271, 272, 273, 588, 589, 597, 598, 599, 600, 601, 602] (by decide +kernel) (by decide +kernel)) (goodIn_sub (fun _ h => List.mem_append_left _ (List.mem_append_right _ h)) (by decide +kernel))
set_option maxRecDepth 20000 in
theorem gL_law_L_pass : GoodIn wsL_law (va_wsS RL 105 yL_pass wsL_pass) := goodIn_app (goodIn_of _ (by decide +kernel)) ggL_law_L_pass
set_option maxRecDepth 20000 in
theorem ggL_law_X2_pass_ : GoodIn wsL_law wsX2_pass_ := goodIn_r _ [277, 83, 37, 278, 272, 249, 273, 251, 252, 253, 87, 88, 5, 89, 90, 91, 92, 93, 279, 280, 281, 282, 35, 283, 244, 245, 246, 247, 248, 250, 590, 591, 592, 593, 594, 595, 596] (by decide +kernel) (by decide +kernel)
set_option maxRecDepth 20000 in
theorem gL_law_X2_pass_ : GoodIn wsL_law (wsV RL 107 RX2 yX2_pass_ wsX2_pass_) := goodIn_app (goodIn_of _ (by decide +kernel)) ggL_law_X2_pass_
set_option maxRecDepth 20000 in
theorem ggL_law_L_fifth : GoodIn wsL_law wsL_fifth := goodIn_ca (goodIn_r _ [286, 42, 287, 288, 289, 2, 290, 16, 50, 51, 52, 53, 54, 291, 292, 293, 294, 295, 296, 15, 297, 23, 27, 71, 72, 73, 74, 223, 224, 225, 226, 24, 298, 299, 300, 301, 302, 303, 304, 305, 271, 272, 249, 273, 306, 307, 308, 309, 310, 311, 312, 313, 588, 589, 597, 598, 599, 600, 601, 602] (by decide +kernel) (by decide +kernel)) (goodIn_sub (fun _ h => List.mem_append_left _ (List.mem_append_left _ (List.mem_append_right _ h))) (by decide +kernel))
set_option maxRecDepth 20000 in
theorem gL_law_L_fifth : GoodIn wsL_law (va_wsS RL 108 yL_fifth wsL_fifth) := goodIn_app (goodIn_of _ (by decide +kernel)) ggL_law_L_fifth
set_option maxRecDepth 20000 in
theorem ggL_law_X2_fifth : GoodIn wsL_law wsX2_fifth := goodIn_r _ [317, 83, 84, 85, 5, 86, 87, 88, 89, 318, 319, 320, 321, 33, 117, 118, 119, 120, 34, 236, 237, 238, 239, 240, 241, 242, 243, 37, 322, 323, 324, 325, 326, 327, 328, 329, 278, 272, 249, 273, 330, 331, 332, 90, 91, 92, 93, 590, 591, 592, 593, 594, 595, 596] (by decide +kernel) (by decide +kernel)
set_option maxRecDepth 20000 in
theorem gL_law_X2_fifth : GoodIn wsL_law (wsV RL 110 RX2 yX2_fifth wsX2_fifth) := goodIn_app (goodIn_of _ (by decide +kernel)) ggL_law_X2_fifth
set_option maxRecDepth 20000 in
theorem ggL_law_L_major : GoodIn wsL_law wsL_major := goodIn_ca (goodIn_r _ [335, 42, 336, 337, 338, 2, 339, 16, 50, 51, 52, 53, 54, 291, 292, 293, 340, 341, 342, 15, 343, 219, 220, 221, 222, 223, 224, 225, 226, 23, 24, 71, 72, 73, 74, 344, 345, 346, 347, 271, 272, 249, 273, 306, 307, 308, 309, 310, 311, 312, 313, 588, 589, 597, 598, 599, 600, 601, 602] (by decide +kernel) (by decide +kernel)) (goodIn_sub (fun _ h => List.mem_append_left _ (List.mem_append_left _ (List.mem_append_right _ h))) (by decide +kernel))
set_option maxRecDepth 20000 in
theorem gL_law_L_major : GoodIn wsL_law (va_wsS RL 111 yL_major wsL_major) := goodIn_app (goodIn_of _ (by decide +kernel)) ggL_law_L_major
set_option maxRecDepth 20000 in
theorem ggL_law_X2_major : GoodIn wsL_law wsX2_major := goodIn_r _ [351, 83, 84, 85, 5, 86, 87, 88, 89, 352, 353, 354, 355, 232, 233, 234, 235, 236, 237, 238, 239, 240, 241, 242, 243, 37, 117, 118, 119, 120, 33, 34, 326, 327, 328, 329, 278, 272, 249, 273, 330, 331, 332, 90, 91, 92, 93, 590, 591, 592, 593, 594, 595, 596] (by decide +kernel) (by decide +kernel)
set_option maxRecDepth 20000 in
theorem gL_law_X2_major : GoodIn wsL_law (wsV RL 113 RX2 yX2_major wsX2_major) := goodIn_app (goodIn_of _ (by decide +kernel)) ggL_law_X2_major
set_option maxRecDepth 20000 in
theorem ggL_law_L_minor : GoodIn wsL_law wsL_minor := goodIn_ca (goodIn_r _ [358, 42, 359, 360, 361, 2, 362, 16, 50, 51, 52, 53, 54, 291, 292, 293, 363, 364, 365, 15, 366, 367, 368, 369, 370, 223, 224, 225, 226, 23, 24, 71, 72, 73, 74, 588, 589, 597, 598, 599, 600, 601, 602] (by decide +kernel) (by decide +kernel)) (goodIn_sub (fun _ h => List.mem_append_left _ (List.mem_append_left _ (List.mem_append_right _ h))) (by decide +kernel))
set_option maxRecDepth 20000 in
theorem gL_law_L_minor : GoodIn wsL_law (va_wsS RL 114 yL_minor wsL_minor) := goodIn_app (goodIn_of _ (by decide +kernel)) ggL_law_L_minor
set_option maxRecDepth 20000 in
theorem ggL_law_X2_minor : GoodIn wsL_law wsX2_minor := goodIn_r _ [374, 83, 84, 85, 5, 86, 87, 88, 89, 375, 376, 377, 378, 379, 380, 381, 382, 236, 237, 238, 239, 240, 241, 242, 243, 37, 117, 118, 119, 120, 33, 34, 90, 91, 92, 93, 590, 591, 592, 593, 594, 595, 596] (by decide +kernel) (by decide +kernel)
set_option maxRecDepth 20000 in
theorem gL_law_X2_minor : GoodIn wsL_law (wsV RL 116 RX2 yX2_minor wsX2_minor) := goodIn_app (goodIn_of _ (by decide +kernel)) ggL_law_X2_minor
set_option maxRecDepth 20000 in
theorem ggL_law_L_note : GoodIn wsL_law wsL_note := goodIn_ca (goodIn_r _ [385, 42, 386, 387, 388, 2, 389, 16, 50, 51, 52, 53, 54, 291, 292, 293, 390, 391, 392, 15, 393, 24, 25, 71, 72, 73, 74, 310, 311, 312, 313, 306, 307, 308, 309, 394, 395, 396, 397, 298, 299, 300, 301, 223, 224, 225, 226, 23, 588, 589, 597, 598, 599, 600, 601, 602] (by decide +kernel) (by decide +kernel)) (goodIn_sub (fun _ h => List.mem_append_left _ (List.mem_append_left _ (List.mem_append_right _ h))) (by decide +kernel))
set_option maxRecDepth 20000 in
theorem gL_law_L_note : GoodIn wsL_law (va_wsS RL 117 yL_note wsL_note) := goodIn_app (goodIn_of _ (by decide +kernel)) ggL_law_L_note
set_option maxRecDepth 20000 in
theorem ggL_law_X2_note : GoodIn wsL_law wsX2_note := goodIn_r _ [401, 83, 84, 85, 5, 86, 87, 88, 89, 402, 403, 404, 405, 37, 35, 329, 330, 331, 332, 236, 237, 238, 239, 240, 241, 242, 243, 117, 118, 119, 120, 33, 34, 406, 72, 73, 74, 90, 91, 92, 93, 590, 591, 592, 593, 594, 595, 596] (by decide +kernel) (by decide +kernel)
set_option maxRecDepth 20000 in
theorem gL_law_X2_note : GoodIn wsL_law (wsV RL 119 RX2 yX2_note wsX2_note) := goodIn_app (goodIn_of _ (by decide +kernel)) ggL_law_X2_note
set_option maxRecDepth 20000 in
theorem ggL_law_L_key : GoodIn wsL_law wsL_key := goodIn_ca (goodIn_r _ [409, 42, 410, 411, 412, 2, 413, 16, 50, 51, 52, 53, 54, 291, 292, 293, 414, 415, 416, 15, 417, 26, 71, 72, 73, 74, 418, 419, 420, 421, 271, 272, 249, 273, 219, 220, 221, 222, 223, 224, 225, 226, 23, 24, 422, 423, 424, 425, 588, 589, 597, 598, 599, 600, 601, 602] (by decide +kernel) (by decide +kernel)) (goodIn_sub (fun _ h => List.mem_append_left _ (List.mem_append_left _ (List.mem_append_right _ h))) (by decide +kernel))
set_option maxRecDepth 20000 in
theorem gL_law_L_key : GoodIn wsL_law (va_wsS RL 120 yL_key wsL_key) := goodIn_app (goodIn_of _ (by decide +kernel)) ggL_law_L_key
set_option maxRecDepth 20000 in
theorem ggL_law_X2_key : GoodIn wsL_law wsX2_key := goodIn_r _ [429, 83, 84, 85, 5, 86, 87, 88, 89, 430, 431, 432, 433, 36, 434, 435, 436, 437, 278, 272, 249, 273, 232, 233, 234, 235, 236, 237, 238, 239, 240, 241, 242, 243, 37, 117, 118, 119, 120, 33, 34, 438, 439, 440, 441, 90, 91, 92, 93, 590, 591, 592, 593, 594, 595, 596] (by decide +kernel) (by decide +kernel)
set_option maxRecDepth 20000 in
theorem gL_law_X2_key : GoodIn wsL_law (wsV RL 122 RX2 yX2_key wsX2_key) := goodIn_app (goodIn_of _ (by decide +kernel)) ggL_law_X2_key
set_option maxRecDepth 20000 in
theorem ggL_law_L_count : GoodIn wsL_law wsL_count := goodIn_ca (goodIn_r _ [444, 42, 445, 446, 447, 2, 448, 16, 291, 292, 293, 53, 54, 449, 450, 451, 15, 452, 28, 27, 453, 454, 455, 456, 26, 418, 419, 420, 421, 271, 272, 249, 273, 219, 220, 221, 222, 223, 224, 225, 226, 23, 24, 71, 72, 73, 74, 457, 458, 459, 460, 266, 252, 253, 461, 462, 463, 464, 465, 466, 467, 468, 469, 470, 471, 472, 302, 303, 304, 305, 306, 307, 308, 309, 310, 311, 312, 313, 588, 589, 597, 598, 599, 600, 601, 602] (by decide +kernel) (by decide +kernel)) (goodIn_sub (fun _ h => List.mem_append_left _ (List.mem_append_left _ (List.mem_append_right _ h))) (by decide +kernel))
set_option maxRecDepth 20000 in
theorem gL_law_L_count : GoodIn wsL_law (va_wsS RL 123 yL_count wsL_count) := goodIn_app (goodIn_of _ (by decide +kernel)) ggL_law_L_count
set_option maxRecDepth 20000 in
theorem ggL_law_X2_count : GoodIn wsL_law wsX2_count := goodIn_r _ [476, 83, 87, 88, 5, 89, 477, 478, 479, 480, 283, 33, 278, 272, 249, 273, 251, 252, 253, 37, 481, 482, 483, 484, 36, 434, 435, 436, 437, 232, 233, 234, 235, 236, 237, 238, 239, 240, 241, 242, 243, 117, 118, 119, 120, 34, 485, 486, 487, 488, 322, 323, 324, 325, 326, 327, 328, 329, 330, 331, 332, 90, 91, 92, 93, 590, 591, 592, 593, 594, 595, 596] (by decide +kernel) (by decide +kernel)
set_option maxRecDepth 20000 in
theorem gL_law_X2_count : GoodIn wsL_law (wsV RL 125 RX2 yX2_count wsX2_count) := goodIn_app (goodIn_of _ (by decide +kernel)) ggL_law_X2_count
set_option maxRecDepth 20000 in
theorem ggL_law_L_foresee : GoodIn wsL_law wsL_foresee := goodIn_ca (goodIn_ca (goodIn_r _ [491, 43, 42, 492, 493, 494, 2, 495, 17, 55, 56, 57, 58, 59, 291, 292, 293, 53, 54, 496, 497, 498, 499, 49, 16, 214, 159, 147, 66, 500, 261, 262, 263, 15, 264, 24, 25, 265, 248, 249, 250, 266, 252, 253, 28, 449, 450, 451, 452, 27, 453, 454, 455, 456, 26, 418, 419, 420, 421, 271, 272, 273, 219, 220, 221, 222, 223, 224, 225, 226, 23, 71, 72, 73, 74, 457, 458, 459, 460, 461, 462, 463, 464, 465, 466, 467, 468, 469, 470, 471, 472, 302, 303, 304, 305, 306, 307, 308, 309, 310, 311, 312, 313, 588, 589, 597, 598, 599, 600, 601, 602] (by decide +kernel) (by decide +kernel)) (goodIn_sub (fun _ h => List.mem_append_left _ (List.mem_append_right _ h)) (by decide +kernel))) (goodIn_sub (fun _ h => List.mem_append_left _ (List.mem_append_left _ (List.mem_append_right _ h))) (by decide +kernel))
set_option maxRecDepth 20000 in
theorem gL_law_L_foresee : GoodIn wsL_law (va_wsS RL 126 yL_foresee wsL_foresee) := goodIn_app (goodIn_of _ (by decide +kernel)) ggL_law_L_foresee
set_option maxRecDepth 20000 in
theorem ggL_law_X2_foresee : GoodIn wsL_law wsX2_foresee := goodIn_r _ [504, 83, 37, 283, 87, 88, 5, 89, 90, 91, 92, 93, 505, 506, 507, 508, 22, 509, 510, 511, 512, 279, 280, 281, 282, 35, 244, 245, 246, 247, 248, 249, 250, 251, 252, 253, 477, 478, 479, 480, 33, 278, 272, 273, 481, 482, 483, 484, 36, 434, 435, 436, 437, 232, 233, 234, 235, 236, 237, 238, 239, 240, 241, 242, 243, 117, 118, 119, 120, 34, 485, 486, 487, 488, 322, 323, 324, 325, 326, 327, 328, 329, 330, 331, 332, 590, 591, 592, 593, 594, 595, 596] (by decide +kernel) (by decide +kernel)
set_option maxRecDepth 20000 in
theorem gL_law_X2_foresee : GoodIn wsL_law (wsV RL 128 RX2 yX2_foresee wsX2_foresee) := goodIn_app (goodIn_of _ (by decide +kernel)) ggL_law_X2_foresee
set_option maxRecDepth 20000 in
theorem ggL_law_L_until : GoodIn wsL_law wsL_until := goodIn_ca (goodIn_r _ [515, 43, 516, 517, 518, 2, 519, 17, 55, 56, 57, 58, 59, 496, 497, 498, 499, 49, 16, 214, 159, 147, 66, 500, 520, 470, 471, 15, 472, 27, 266, 252, 249, 253, 302, 303, 304, 305, 271, 272, 273, 306, 307, 308, 309, 310, 311, 312, 313, 71, 72, 73, 74, 223, 224, 225, 226, 23, 24, 261, 262, 263, 264, 25, 265, 248, 250, 28, 588, 589, 597, 598, 599, 600, 601, 602] (by decide +kernel) (by decide +kernel)) (goodIn_sub (fun _ h => List.mem_append_left _ (List.mem_append_right _ h)) (by decide +kernel))
set_option maxRecDepth 20000 in
theorem gL_law_L_until : GoodIn wsL_law (va_wsS RL 129 yL_until wsL_until) := goodIn_app (goodIn_of _ (by decide +kernel)) ggL_law_L_until
set_option maxRecDepth 20000 in
theorem ggL_law_X2_until : GoodIn wsL_law wsX2_until := goodIn_r _ [524, 83, 37, 283, 87, 88, 5, 89, 90, 91, 92, 93, 505, 506, 507, 508, 22, 509, 510, 511, 512, 485, 486, 487, 488, 33, 251, 252, 249, 253, 322, 323, 324, 325, 236, 237, 238, 239, 240, 241, 242, 243, 117, 118, 119, 120, 34, 326, 327, 328, 329, 278, 272, 273, 330, 331, 332, 279, 280, 281, 282, 35, 244, 245, 246, 247, 248, 250, 590, 591, 592, 593, 594, 595, 596] (by decide +kernel) (by decide +kernel)
set_option maxRecDepth 20000 in
theorem gL_law_X2_until : GoodIn wsL_law (wsV RL 131 RX2 yX2_until wsX2_until) := goodIn_app (goodIn_of _ (by decide +kernel)) ggL_law_X2_until
set_option maxRecDepth 20000 in
theorem ggL_law_X1_advise : GoodIn wsL_law wsX1_advise := goodIn_r _ [528, 529, 530, 531, 2, 532, 17, 496, 497, 498, 499, 49, 16, 214, 159, 147, 66, 500, 105, 106, 107, 15, 108, 27, 23, 71, 72, 73, 74, 533, 454, 455, 456, 26, 418, 419, 420, 421, 271, 272, 249, 273, 219, 220, 221, 222, 223, 224, 225, 226, 24, 588, 589, 597, 598, 599, 600, 601, 602] (by decide +kernel) (by decide +kernel)
set_option maxRecDepth 20000 in
theorem gL_law_X1_advise : GoodIn wsL_law (wsV RL 132 RX1 yX1_advise wsX1_advise) := goodIn_app (goodIn_of _ (by decide +kernel)) ggL_law_X1_advise
set_option maxRecDepth 20000 in
theorem ggL_law_X2_advise : GoodIn wsL_law wsX2_advise := goodIn_r _ [537, 83, 33, 113, 114, 115, 5, 116, 34, 117, 118, 119, 120, 481, 482, 483, 484, 36, 434, 435, 436, 437, 278, 272, 249, 273, 232, 233, 234, 235, 236, 237, 238, 239, 240, 241, 242, 243, 37, 590, 591, 592, 593, 594, 595, 596] (by decide +kernel) (by decide +kernel)
set_option maxRecDepth 20000 in
theorem gL_law_X2_advise : GoodIn wsL_law (wsV RL 135 RX2 yX2_advise wsX2_advise) := goodIn_app (goodIn_of _ (by decide +kernel)) ggL_law_X2_advise
set_option maxRecDepth 20000 in
theorem ggL_law_L_temper : GoodIn wsL_law wsL_temper := goodIn_ca (goodIn_ca (goodIn_r _ [540, 42, 44, 541, 542, 543, 2, 544, 50, 51, 52, 53, 54, 60, 61, 62, 63, 64, 65, 16, 66, 545, 546, 547, 548, 17, 496, 497, 498, 499, 49, 214, 159, 147, 500, 67, 68, 69, 15, 70, 23, 71, 72, 73, 74, 75, 76, 77, 78, 27, 533, 454, 455, 456, 26, 418, 419, 420, 421, 271, 272, 249, 273, 219, 220, 221, 222, 223, 224, 225, 226, 24, 588, 589, 597, 598, 599, 600, 601, 602] (by decide +kernel) (by decide +kernel)) (goodIn_sub (fun _ h => List.mem_append_left _ (List.mem_append_left _ (List.mem_append_right _ h))) (by decide +kernel))) (goodIn_sub (fun _ h => List.mem_append_right _ h) (by decide +kernel))
set_option maxRecDepth 20000 in
theorem gL_law_L_temper : GoodIn wsL_law (va_wsS RL 136 yL_temper wsL_temper) := goodIn_app (goodIn_of _ (by decide +kernel)) ggL_law_L_temper
set_option maxRecDepth 20000 in
theorem ggL_law_X2_temper : GoodIn wsL_law wsX2_temper := goodIn_r _ [552, 83, 33, 34, 84, 85, 5, 86, 87, 88, 89, 90, 91, 92, 93, 481, 482, 483, 484, 36, 434, 435, 436, 437, 278, 272, 249, 273, 232, 233, 234, 235, 236, 237, 238, 239, 240, 241, 242, 243, 37, 117, 118, 119, 120, 590, 591, 592, 593, 594, 595, 596] (by decide +kernel) (by decide +kernel)
set_option maxRecDepth 20000 in
theorem gL_law_X2_temper : GoodIn wsL_law (wsV RL 138 RX2 yX2_temper wsX2_temper) := goodIn_app (goodIn_of _ (by decide +kernel)) ggL_law_X2_temper
set_option maxRecDepth 20000 in
theorem ggL_law_X1_next : GoodIn wsL_law wsX1_next := goodIn_r _ [556, 16, 533, 454, 455, 15, 456, 26, 418, 419, 420, 421, 271, 272, 249, 273, 219, 220, 221, 222, 223, 224, 225, 226, 23, 24, 71, 72, 73, 74, 171, 172, 173, 174, 27, 557, 558, 559, 2, 560, 17, 496, 497, 498, 499, 49, 214, 159, 147, 66, 500, 175, 176, 177, 178, 588, 589, 597, 598, 599, 600, 601, 602] (by decide +kernel) (by decide +kernel)
set_option maxRecDepth 20000 in
theorem gL_law_X1_next : GoodIn wsL_law (wsV RL 139 RX1 yX1_next wsX1_next) := goodIn_app (goodIn_of _ (by decide +kernel)) ggL_law_X1_next
set_option maxRecDepth 20000 in
theorem ggL_law_X2_next : GoodIn wsL_law wsX2_next := goodIn_r _ [564, 83, 37, 481, 482, 483, 5, 484, 36, 434, 435, 436, 437, 278, 272, 249, 273, 232, 233, 234, 235, 236, 237, 238, 239, 240, 241, 242, 243, 117, 118, 119, 120, 33, 34, 183, 184, 185, 186, 187, 188, 189, 190, 191, 192, 193, 590, 591, 592, 593, 594, 595, 596] (by decide +kernel) (by decide +kernel)
set_option maxRecDepth 20000 in
theorem gL_law_X2_next : GoodIn wsL_law (wsV RL 142 RX2 yX2_next wsX2_next) := goodIn_app (goodIn_of _ (by decide +kernel)) ggL_law_X2_next
set_option maxRecDepth 20000 in
theorem ggL_law_X1_mean : GoodIn wsL_law wsX1_mean := goodIn_r _ [568, 16, 569, 570, 419, 420, 15, 421, 271, 272, 249, 273, 219, 220, 221, 222, 223, 224, 225, 226, 23, 24, 71, 72, 73, 74, 588, 589, 597, 598, 599, 600, 601, 602] (by decide +kernel) (by decide +kernel)
set_option maxRecDepth 20000 in
theorem gL_law_X1_mean : GoodIn wsL_law (wsV RL 143 RX1 yX1_mean wsX1_mean) := goodIn_app (goodIn_of _ (by decide +kernel)) ggL_law_X1_mean
set_option maxRecDepth 20000 in
theorem ggL_law_X2_mean : GoodIn wsL_law wsX2_mean := goodIn_r _ [574, 83, 575, 434, 435, 436, 5, 437, 278, 272, 249, 273, 232, 233, 234, 235, 236, 237, 238, 239, 240, 241, 242, 243, 37, 117, 118, 119, 120, 33, 34, 590, 591, 592, 593, 594, 595, 596] (by decide +kernel) (by decide +kernel)
set_option maxRecDepth 20000 in
theorem gL_law_X2_mean : GoodIn wsL_law (wsV RL 147 RX2 yX2_mean wsX2_mean) := goodIn_app (goodIn_of _ (by decide +kernel)) ggL_law_X2_mean
set_option maxRecDepth 20000 in
theorem ggL_law_X1_digest : GoodIn wsL_law wsX1_digest := goodIn_r _ [579, 580, 581, 16, 449, 450, 451, 15, 452, 28, 27, 453, 454, 455, 456, 26, 418, 419, 420, 421, 271, 272, 249, 273, 219, 220, 221, 222, 223, 224, 225, 226, 23, 24, 71, 72, 73, 74, 457, 458, 459, 460, 266, 252, 253, 461, 462, 463, 464, 465, 466, 467, 468, 469, 470, 471, 472, 302, 303, 304, 305, 306, 307, 308, 309, 310, 311, 312, 313, 294, 295, 296, 297, 298, 299, 300, 301, 340, 341, 342, 343, 344, 345, 346, 347, 363, 364, 365, 366, 367, 368, 369, 370, 390, 391, 392, 393, 25, 394, 395, 396, 397, 414, 415, 416, 417, 422, 423, 424, 425, 588, 589, 597, 598, 599, 600, 601, 602] (by decide +kernel) (by decide +kernel)
set_option maxRecDepth 20000 in
theorem gL_law_X1_digest : GoodIn wsL_law (wsV RL 148 RX1 yX1_digest wsX1_digest) := goodIn_app (goodIn_of _ (by decide +kernel)) ggL_law_X1_digest
set_option maxRecDepth 20000 in
theorem ggL_law_X2_digest : GoodIn wsL_law wsX2_digest := goodIn_r _ [585, 83, 586, 587, 477, 478, 479, 5, 480, 283, 33, 278, 272, 249, 273, 251, 252, 253, 37, 481, 482, 483, 484, 36, 434, 435, 436, 437, 232, 233, 234, 235, 236, 237, 238, 239, 240, 241, 242, 243, 117, 118, 119, 120, 34, 485, 486, 487, 488, 322, 323, 324, 325, 326, 327, 328, 329, 330, 331, 332, 318, 319, 320, 321, 352, 353, 354, 355, 375, 376, 377, 378, 379, 380, 381, 382, 402, 403, 404, 405, 35, 406, 72, 73, 74, 430, 431, 432, 433, 438, 439, 440, 441, 590, 591, 592, 593, 594, 595, 596] (by decide +kernel) (by decide +kernel)
set_option maxRecDepth 20000 in
theorem gL_law_X2_digest : GoodIn wsL_law (wsV RL 152 RX2 yX2_digest wsX2_digest) := goodIn_app (goodIn_of _ (by decide +kernel)) ggL_law_X2_digest
theorem dL_law_0 : decode cL_law 0 = .ok (.new 8, 3) := by decide +kernel
theorem dL_law_3 : decode cL_law 3 = .ok (.dup, 1) := by decide +kernel
theorem dL_law_4 : decode cL_law 4 = .ok (.invokespecial 68, 3) := by decide +kernel
theorem dL_law_7 : decode cL_law 7 = .ok (.astore_n 1, 1) := by decide +kernel
theorem dL_law_8 : decode cL_law 8 = .ok (.new 69, 3) := by decide +kernel
theorem dL_law_11 : decode cL_law 11 = .ok (.dup, 1) := by decide +kernel
theorem dL_law_12 : decode cL_law 12 = .ok (.invokespecial 71, 3) := by decide +kernel
theorem dL_law_15 : decode cL_law 15 = .ok (.astore_n 2, 1) := by decide +kernel
theorem dL_law_16 : decode cL_law 16 = .ok (.iconst 1, 1) := by decide +kernel
theorem dL_law_17 : decode cL_law 17 = .ok (.newarray .long, 2) := by decide +kernel
theorem dL_law_19 : decode cL_law 19 = .ok (.astore_n 3, 1) := by decide +kernel
theorem dL_law_20 : decode cL_law 20 = .ok (.iconst 0, 1) := by decide +kernel
theorem dL_law_21 : decode cL_law 21 = .ok (.istore 4, 2) := by decide +kernel
theorem dL_law_23 : decode cL_law 23 = .ok (.iload 4, 2) := by decide +kernel
theorem dL_law_25 : decode cL_law 25 = .ok (.aload_n 0, 1) := by decide +kernel
theorem dL_law_26 : decode cL_law 26 = .ok (.arraylength, 1) := by decide +kernel
theorem dL_law_27 : decode cL_law 27 = .ok (.iconst 3, 1) := by decide +kernel
theorem dL_law_28 : decode cL_law 28 = .ok (.isub, 1) := by decide +kernel
theorem dL_law_29 : decode cL_law 29 = .ok (.if_icmp .gt 1271, 3) := by decide +kernel
theorem dL_law_32 : decode cL_law 32 = .ok (.aload_n 0, 1) := by decide +kernel
theorem dL_law_33 : decode cL_law 33 = .ok (.iload 4, 2) := by decide +kernel
theorem dL_law_35 : decode cL_law 35 = .ok (.iaload, 1) := by decide +kernel
theorem dL_law_36 : decode cL_law 36 = .ok (.bipush 31, 2) := by decide +kernel
theorem dL_law_38 : decode cL_law 38 = .ok (.iand, 1) := by decide +kernel
theorem dL_law_39 : decode cL_law 39 = .ok (.tableswitch 1255 0 21 #[101, 169, 225, 281, 349, 417, 473, 486, 542, 598, 666, 734, 802, 870, 938, 994, 1062, 1118, 1131, 1187, 1200, 1241], 101) := by decide +kernel
theorem dL_law_140 : decode cL_law 140 = .ok (.aload_n 1, 1) := by decide +kernel
theorem dL_law_141 : decode cL_law 141 = .ok (.aload_n 0, 1) := by decide +kernel
theorem dL_law_142 : decode cL_law 142 = .ok (.iload 4, 2) := by decide +kernel
theorem dL_law_144 : decode cL_law 144 = .ok (.iconst 1, 1) := by decide +kernel
theorem dL_law_145 : decode cL_law 145 = .ok (.iadd, 1) := by decide +kernel
theorem dL_law_146 : decode cL_law 146 = .ok (.iaload, 1) := by decide +kernel
theorem dL_law_147 : decode cL_law 147 = .ok (.aload_n 0, 1) := by decide +kernel
theorem dL_law_148 : decode cL_law 148 = .ok (.iload 4, 2) := by decide +kernel
theorem dL_law_150 : decode cL_law 150 = .ok (.iconst 2, 1) := by decide +kernel
theorem dL_law_151 : decode cL_law 151 = .ok (.iadd, 1) := by decide +kernel
theorem dL_law_152 : decode cL_law 152 = .ok (.iaload, 1) := by decide +kernel
theorem dL_law_153 : decode cL_law 153 = .ok (.aload_n 3, 1) := by decide +kernel
theorem dL_law_154 : decode cL_law 154 = .ok (.invokestatic 72, 3) := by decide +kernel
theorem dL_law_157 : decode cL_law 157 = .ok (.istore 5, 2) := by decide +kernel
theorem dL_law_159 : decode cL_law 159 = .ok (.aload_n 2, 1) := by decide +kernel
theorem dL_law_160 : decode cL_law 160 = .ok (.aload_n 0, 1) := by decide +kernel
theorem dL_law_161 : decode cL_law 161 = .ok (.iload 4, 2) := by decide +kernel
theorem dL_law_163 : decode cL_law 163 = .ok (.iconst 1, 1) := by decide +kernel
theorem dL_law_164 : decode cL_law 164 = .ok (.iadd, 1) := by decide +kernel
theorem dL_law_165 : decode cL_law 165 = .ok (.iaload, 1) := by decide +kernel
theorem dL_law_166 : decode cL_law 166 = .ok (.aload_n 0, 1) := by decide +kernel
theorem dL_law_167 : decode cL_law 167 = .ok (.iload 4, 2) := by decide +kernel
theorem dL_law_169 : decode cL_law 169 = .ok (.iconst 2, 1) := by decide +kernel
theorem dL_law_170 : decode cL_law 170 = .ok (.iadd, 1) := by decide +kernel
theorem dL_law_171 : decode cL_law 171 = .ok (.iaload, 1) := by decide +kernel
theorem dL_law_172 : decode cL_law 172 = .ok (.invokevirtual 77, 3) := by decide +kernel
theorem dL_law_175 : decode cL_law 175 = .ok (.istore 6, 2) := by decide +kernel
theorem dL_law_177 : decode cL_law 177 = .ok (.aload_n 2, 1) := by decide +kernel
theorem dL_law_178 : decode cL_law 178 = .ok (.invokevirtual 78, 3) := by decide +kernel
theorem dL_law_181 : decode cL_law 181 = .ok (.iload 5, 2) := by decide +kernel
theorem dL_law_183 : decode cL_law 183 = .ok (.if_icmp .eq 5, 3) := by decide +kernel
theorem dL_law_186 : decode cL_law 186 = .ok (.iconst 0, 1) := by decide +kernel
theorem dL_law_187 : decode cL_law 187 = .ok (.ireturn, 1) := by decide +kernel
theorem dL_law_188 : decode cL_law 188 = .ok (.iload 5, 2) := by decide +kernel
theorem dL_law_190 : decode cL_law 190 = .ok (.ifCond .ne 15, 3) := by decide +kernel
theorem dL_law_193 : decode cL_law 193 = .ok (.aload_n 3, 1) := by decide +kernel
theorem dL_law_194 : decode cL_law 194 = .ok (.iconst 0, 1) := by decide +kernel
theorem dL_law_195 : decode cL_law 195 = .ok (.laload, 1) := by decide +kernel
theorem dL_law_196 : decode cL_law 196 = .ok (.iload 6, 2) := by decide +kernel
theorem dL_law_198 : decode cL_law 198 = .ok (.i2l, 1) := by decide +kernel
theorem dL_law_199 : decode cL_law 199 = .ok (.lcmp, 1) := by decide +kernel
theorem dL_law_200 : decode cL_law 200 = .ok (.ifCond .eq 5, 3) := by decide +kernel
theorem dL_law_203 : decode cL_law 203 = .ok (.iconst 0, 1) := by decide +kernel
theorem dL_law_204 : decode cL_law 204 = .ok (.ireturn, 1) := by decide +kernel
theorem dL_law_205 : decode cL_law 205 = .ok (.goto 1089, 3) := by decide +kernel
theorem dL_law_208 : decode cL_law 208 = .ok (.aload_n 1, 1) := by decide +kernel
theorem dL_law_209 : decode cL_law 209 = .ok (.aload_n 0, 1) := by decide +kernel
theorem dL_law_210 : decode cL_law 210 = .ok (.iload 4, 2) := by decide +kernel
theorem dL_law_212 : decode cL_law 212 = .ok (.iconst 1, 1) := by decide +kernel
theorem dL_law_213 : decode cL_law 213 = .ok (.iadd, 1) := by decide +kernel
theorem dL_law_214 : decode cL_law 214 = .ok (.iaload, 1) := by decide +kernel
theorem dL_law_215 : decode cL_law 215 = .ok (.aload_n 3, 1) := by decide +kernel
theorem dL_law_216 : decode cL_law 216 = .ok (.invokestatic 82, 3) := by decide +kernel
theorem dL_law_219 : decode cL_law 219 = .ok (.istore 5, 2) := by decide +kernel
theorem dL_law_221 : decode cL_law 221 = .ok (.aload_n 2, 1) := by decide +kernel
theorem dL_law_222 : decode cL_law 222 = .ok (.aload_n 0, 1) := by decide +kernel
theorem dL_law_223 : decode cL_law 223 = .ok (.iload 4, 2) := by decide +kernel
theorem dL_law_225 : decode cL_law 225 = .ok (.iconst 1, 1) := by decide +kernel
theorem dL_law_226 : decode cL_law 226 = .ok (.iadd, 1) := by decide +kernel
theorem dL_law_227 : decode cL_law 227 = .ok (.iaload, 1) := by decide +kernel
theorem dL_law_228 : decode cL_law 228 = .ok (.invokevirtual 85, 3) := by decide +kernel
theorem dL_law_231 : decode cL_law 231 = .ok (.istore 6, 2) := by decide +kernel
theorem dL_law_233 : decode cL_law 233 = .ok (.aload_n 2, 1) := by decide +kernel
theorem dL_law_234 : decode cL_law 234 = .ok (.invokevirtual 78, 3) := by decide +kernel
theorem dL_law_237 : decode cL_law 237 = .ok (.iload 5, 2) := by decide +kernel
theorem dL_law_239 : decode cL_law 239 = .ok (.if_icmp .eq 5, 3) := by decide +kernel
theorem dL_law_242 : decode cL_law 242 = .ok (.iconst 0, 1) := by decide +kernel
theorem dL_law_243 : decode cL_law 243 = .ok (.ireturn, 1) := by decide +kernel
theorem dL_law_244 : decode cL_law 244 = .ok (.iload 5, 2) := by decide +kernel
theorem dL_law_246 : decode cL_law 246 = .ok (.ifCond .ne 15, 3) := by decide +kernel
theorem dL_law_249 : decode cL_law 249 = .ok (.aload_n 3, 1) := by decide +kernel
theorem dL_law_250 : decode cL_law 250 = .ok (.iconst 0, 1) := by decide +kernel
theorem dL_law_251 : decode cL_law 251 = .ok (.laload, 1) := by decide +kernel
theorem dL_law_252 : decode cL_law 252 = .ok (.iload 6, 2) := by decide +kernel
theorem dL_law_254 : decode cL_law 254 = .ok (.i2l, 1) := by decide +kernel
theorem dL_law_255 : decode cL_law 255 = .ok (.lcmp, 1) := by decide +kernel
theorem dL_law_256 : decode cL_law 256 = .ok (.ifCond .eq 5, 3) := by decide +kernel
theorem dL_law_259 : decode cL_law 259 = .ok (.iconst 0, 1) := by decide +kernel
theorem dL_law_260 : decode cL_law 260 = .ok (.ireturn, 1) := by decide +kernel
theorem dL_law_261 : decode cL_law 261 = .ok (.goto 1033, 3) := by decide +kernel
theorem dL_law_264 : decode cL_law 264 = .ok (.aload_n 1, 1) := by decide +kernel
theorem dL_law_265 : decode cL_law 265 = .ok (.aload_n 0, 1) := by decide +kernel
theorem dL_law_266 : decode cL_law 266 = .ok (.iload 4, 2) := by decide +kernel
theorem dL_law_268 : decode cL_law 268 = .ok (.iconst 1, 1) := by decide +kernel
theorem dL_law_269 : decode cL_law 269 = .ok (.iadd, 1) := by decide +kernel
theorem dL_law_270 : decode cL_law 270 = .ok (.iaload, 1) := by decide +kernel
theorem dL_law_271 : decode cL_law 271 = .ok (.aload_n 3, 1) := by decide +kernel
theorem dL_law_272 : decode cL_law 272 = .ok (.invokestatic 86, 3) := by decide +kernel
theorem dL_law_275 : decode cL_law 275 = .ok (.istore 5, 2) := by decide +kernel
theorem dL_law_277 : decode cL_law 277 = .ok (.aload_n 2, 1) := by decide +kernel
theorem dL_law_278 : decode cL_law 278 = .ok (.aload_n 0, 1) := by decide +kernel
theorem dL_law_279 : decode cL_law 279 = .ok (.iload 4, 2) := by decide +kernel
theorem dL_law_281 : decode cL_law 281 = .ok (.iconst 1, 1) := by decide +kernel
theorem dL_law_282 : decode cL_law 282 = .ok (.iadd, 1) := by decide +kernel
theorem dL_law_283 : decode cL_law 283 = .ok (.iaload, 1) := by decide +kernel
theorem dL_law_284 : decode cL_law 284 = .ok (.invokevirtual 88, 3) := by decide +kernel
theorem dL_law_287 : decode cL_law 287 = .ok (.istore 6, 2) := by decide +kernel
theorem dL_law_289 : decode cL_law 289 = .ok (.aload_n 2, 1) := by decide +kernel
theorem dL_law_290 : decode cL_law 290 = .ok (.invokevirtual 78, 3) := by decide +kernel
theorem dL_law_293 : decode cL_law 293 = .ok (.iload 5, 2) := by decide +kernel
theorem dL_law_295 : decode cL_law 295 = .ok (.if_icmp .eq 5, 3) := by decide +kernel
theorem dL_law_298 : decode cL_law 298 = .ok (.iconst 0, 1) := by decide +kernel
theorem dL_law_299 : decode cL_law 299 = .ok (.ireturn, 1) := by decide +kernel
theorem dL_law_300 : decode cL_law 300 = .ok (.iload 5, 2) := by decide +kernel
theorem dL_law_302 : decode cL_law 302 = .ok (.ifCond .ne 15, 3) := by decide +kernel
theorem dL_law_305 : decode cL_law 305 = .ok (.aload_n 3, 1) := by decide +kernel
theorem dL_law_306 : decode cL_law 306 = .ok (.iconst 0, 1) := by decide +kernel
theorem dL_law_307 : decode cL_law 307 = .ok (.laload, 1) := by decide +kernel
theorem dL_law_308 : decode cL_law 308 = .ok (.iload 6, 2) := by decide +kernel
theorem dL_law_310 : decode cL_law 310 = .ok (.i2l, 1) := by decide +kernel
theorem dL_law_311 : decode cL_law 311 = .ok (.lcmp, 1) := by decide +kernel
theorem dL_law_312 : decode cL_law 312 = .ok (.ifCond .eq 5, 3) := by decide +kernel
theorem dL_law_315 : decode cL_law 315 = .ok (.iconst 0, 1) := by decide +kernel
theorem dL_law_316 : decode cL_law 316 = .ok (.ireturn, 1) := by decide +kernel
theorem dL_law_317 : decode cL_law 317 = .ok (.goto 977, 3) := by decide +kernel
theorem dL_law_320 : decode cL_law 320 = .ok (.aload_n 1, 1) := by decide +kernel
theorem dL_law_321 : decode cL_law 321 = .ok (.aload_n 0, 1) := by decide +kernel
theorem dL_law_322 : decode cL_law 322 = .ok (.iload 4, 2) := by decide +kernel
theorem dL_law_324 : decode cL_law 324 = .ok (.iconst 1, 1) := by decide +kernel
theorem dL_law_325 : decode cL_law 325 = .ok (.iadd, 1) := by decide +kernel
theorem dL_law_326 : decode cL_law 326 = .ok (.iaload, 1) := by decide +kernel
theorem dL_law_327 : decode cL_law 327 = .ok (.aload_n 0, 1) := by decide +kernel
theorem dL_law_328 : decode cL_law 328 = .ok (.iload 4, 2) := by decide +kernel
theorem dL_law_330 : decode cL_law 330 = .ok (.iconst 2, 1) := by decide +kernel
theorem dL_law_331 : decode cL_law 331 = .ok (.iadd, 1) := by decide +kernel
theorem dL_law_332 : decode cL_law 332 = .ok (.iaload, 1) := by decide +kernel
theorem dL_law_333 : decode cL_law 333 = .ok (.aload_n 3, 1) := by decide +kernel
theorem dL_law_334 : decode cL_law 334 = .ok (.invokestatic 89, 3) := by decide +kernel
theorem dL_law_337 : decode cL_law 337 = .ok (.istore 5, 2) := by decide +kernel
theorem dL_law_339 : decode cL_law 339 = .ok (.aload_n 2, 1) := by decide +kernel
theorem dL_law_340 : decode cL_law 340 = .ok (.aload_n 0, 1) := by decide +kernel
theorem dL_law_341 : decode cL_law 341 = .ok (.iload 4, 2) := by decide +kernel
theorem dL_law_343 : decode cL_law 343 = .ok (.iconst 1, 1) := by decide +kernel
theorem dL_law_344 : decode cL_law 344 = .ok (.iadd, 1) := by decide +kernel
theorem dL_law_345 : decode cL_law 345 = .ok (.iaload, 1) := by decide +kernel
theorem dL_law_346 : decode cL_law 346 = .ok (.aload_n 0, 1) := by decide +kernel
theorem dL_law_347 : decode cL_law 347 = .ok (.iload 4, 2) := by decide +kernel
theorem dL_law_349 : decode cL_law 349 = .ok (.iconst 2, 1) := by decide +kernel
theorem dL_law_350 : decode cL_law 350 = .ok (.iadd, 1) := by decide +kernel
theorem dL_law_351 : decode cL_law 351 = .ok (.iaload, 1) := by decide +kernel
theorem dL_law_352 : decode cL_law 352 = .ok (.invokevirtual 91, 3) := by decide +kernel
theorem dL_law_355 : decode cL_law 355 = .ok (.istore 6, 2) := by decide +kernel
theorem dL_law_357 : decode cL_law 357 = .ok (.aload_n 2, 1) := by decide +kernel
theorem dL_law_358 : decode cL_law 358 = .ok (.invokevirtual 78, 3) := by decide +kernel
theorem dL_law_361 : decode cL_law 361 = .ok (.iload 5, 2) := by decide +kernel
theorem dL_law_363 : decode cL_law 363 = .ok (.if_icmp .eq 5, 3) := by decide +kernel
theorem dL_law_366 : decode cL_law 366 = .ok (.iconst 0, 1) := by decide +kernel
theorem dL_law_367 : decode cL_law 367 = .ok (.ireturn, 1) := by decide +kernel
theorem dL_law_368 : decode cL_law 368 = .ok (.iload 5, 2) := by decide +kernel
theorem dL_law_370 : decode cL_law 370 = .ok (.ifCond .ne 15, 3) := by decide +kernel
theorem dL_law_373 : decode cL_law 373 = .ok (.aload_n 3, 1) := by decide +kernel
theorem dL_law_374 : decode cL_law 374 = .ok (.iconst 0, 1) := by decide +kernel
theorem dL_law_375 : decode cL_law 375 = .ok (.laload, 1) := by decide +kernel
theorem dL_law_376 : decode cL_law 376 = .ok (.iload 6, 2) := by decide +kernel
theorem dL_law_378 : decode cL_law 378 = .ok (.i2l, 1) := by decide +kernel
theorem dL_law_379 : decode cL_law 379 = .ok (.lcmp, 1) := by decide +kernel
theorem dL_law_380 : decode cL_law 380 = .ok (.ifCond .eq 5, 3) := by decide +kernel
theorem dL_law_383 : decode cL_law 383 = .ok (.iconst 0, 1) := by decide +kernel
theorem dL_law_384 : decode cL_law 384 = .ok (.ireturn, 1) := by decide +kernel
theorem dL_law_385 : decode cL_law 385 = .ok (.goto 909, 3) := by decide +kernel
theorem dL_law_388 : decode cL_law 388 = .ok (.aload_n 1, 1) := by decide +kernel
theorem dL_law_389 : decode cL_law 389 = .ok (.aload_n 0, 1) := by decide +kernel
theorem dL_law_390 : decode cL_law 390 = .ok (.iload 4, 2) := by decide +kernel
theorem dL_law_392 : decode cL_law 392 = .ok (.iconst 1, 1) := by decide +kernel
theorem dL_law_393 : decode cL_law 393 = .ok (.iadd, 1) := by decide +kernel
theorem dL_law_394 : decode cL_law 394 = .ok (.iaload, 1) := by decide +kernel
theorem dL_law_395 : decode cL_law 395 = .ok (.aload_n 0, 1) := by decide +kernel
theorem dL_law_396 : decode cL_law 396 = .ok (.iload 4, 2) := by decide +kernel
theorem dL_law_398 : decode cL_law 398 = .ok (.iconst 2, 1) := by decide +kernel
theorem dL_law_399 : decode cL_law 399 = .ok (.iadd, 1) := by decide +kernel
theorem dL_law_400 : decode cL_law 400 = .ok (.iaload, 1) := by decide +kernel
theorem dL_law_401 : decode cL_law 401 = .ok (.aload_n 3, 1) := by decide +kernel
theorem dL_law_402 : decode cL_law 402 = .ok (.invokestatic 92, 3) := by decide +kernel
theorem dL_law_405 : decode cL_law 405 = .ok (.istore 5, 2) := by decide +kernel
theorem dL_law_407 : decode cL_law 407 = .ok (.aload_n 2, 1) := by decide +kernel
theorem dL_law_408 : decode cL_law 408 = .ok (.aload_n 0, 1) := by decide +kernel
theorem dL_law_409 : decode cL_law 409 = .ok (.iload 4, 2) := by decide +kernel
theorem dL_law_411 : decode cL_law 411 = .ok (.iconst 1, 1) := by decide +kernel
theorem dL_law_412 : decode cL_law 412 = .ok (.iadd, 1) := by decide +kernel
theorem dL_law_413 : decode cL_law 413 = .ok (.iaload, 1) := by decide +kernel
theorem dL_law_414 : decode cL_law 414 = .ok (.aload_n 0, 1) := by decide +kernel
theorem dL_law_415 : decode cL_law 415 = .ok (.iload 4, 2) := by decide +kernel
theorem dL_law_417 : decode cL_law 417 = .ok (.iconst 2, 1) := by decide +kernel
theorem dL_law_418 : decode cL_law 418 = .ok (.iadd, 1) := by decide +kernel
theorem dL_law_419 : decode cL_law 419 = .ok (.iaload, 1) := by decide +kernel
theorem dL_law_420 : decode cL_law 420 = .ok (.invokevirtual 94, 3) := by decide +kernel
theorem dL_law_423 : decode cL_law 423 = .ok (.istore 6, 2) := by decide +kernel
theorem dL_law_425 : decode cL_law 425 = .ok (.aload_n 2, 1) := by decide +kernel
theorem dL_law_426 : decode cL_law 426 = .ok (.invokevirtual 78, 3) := by decide +kernel
theorem dL_law_429 : decode cL_law 429 = .ok (.iload 5, 2) := by decide +kernel
theorem dL_law_431 : decode cL_law 431 = .ok (.if_icmp .eq 5, 3) := by decide +kernel
theorem dL_law_434 : decode cL_law 434 = .ok (.iconst 0, 1) := by decide +kernel
theorem dL_law_435 : decode cL_law 435 = .ok (.ireturn, 1) := by decide +kernel
theorem dL_law_436 : decode cL_law 436 = .ok (.iload 5, 2) := by decide +kernel
theorem dL_law_438 : decode cL_law 438 = .ok (.ifCond .ne 15, 3) := by decide +kernel
theorem dL_law_441 : decode cL_law 441 = .ok (.aload_n 3, 1) := by decide +kernel
theorem dL_law_442 : decode cL_law 442 = .ok (.iconst 0, 1) := by decide +kernel
theorem dL_law_443 : decode cL_law 443 = .ok (.laload, 1) := by decide +kernel
theorem dL_law_444 : decode cL_law 444 = .ok (.iload 6, 2) := by decide +kernel
theorem dL_law_446 : decode cL_law 446 = .ok (.i2l, 1) := by decide +kernel
theorem dL_law_447 : decode cL_law 447 = .ok (.lcmp, 1) := by decide +kernel
theorem dL_law_448 : decode cL_law 448 = .ok (.ifCond .eq 5, 3) := by decide +kernel
theorem dL_law_451 : decode cL_law 451 = .ok (.iconst 0, 1) := by decide +kernel
theorem dL_law_452 : decode cL_law 452 = .ok (.ireturn, 1) := by decide +kernel
theorem dL_law_453 : decode cL_law 453 = .ok (.goto 841, 3) := by decide +kernel
theorem dL_law_456 : decode cL_law 456 = .ok (.aload_n 1, 1) := by decide +kernel
theorem dL_law_457 : decode cL_law 457 = .ok (.aload_n 0, 1) := by decide +kernel
theorem dL_law_458 : decode cL_law 458 = .ok (.iload 4, 2) := by decide +kernel
theorem dL_law_460 : decode cL_law 460 = .ok (.iconst 1, 1) := by decide +kernel
theorem dL_law_461 : decode cL_law 461 = .ok (.iadd, 1) := by decide +kernel
theorem dL_law_462 : decode cL_law 462 = .ok (.iaload, 1) := by decide +kernel
theorem dL_law_463 : decode cL_law 463 = .ok (.aload_n 3, 1) := by decide +kernel
theorem dL_law_464 : decode cL_law 464 = .ok (.invokestatic 95, 3) := by decide +kernel
theorem dL_law_467 : decode cL_law 467 = .ok (.istore 5, 2) := by decide +kernel
theorem dL_law_469 : decode cL_law 469 = .ok (.aload_n 2, 1) := by decide +kernel
theorem dL_law_470 : decode cL_law 470 = .ok (.aload_n 0, 1) := by decide +kernel
theorem dL_law_471 : decode cL_law 471 = .ok (.iload 4, 2) := by decide +kernel
theorem dL_law_473 : decode cL_law 473 = .ok (.iconst 1, 1) := by decide +kernel
theorem dL_law_474 : decode cL_law 474 = .ok (.iadd, 1) := by decide +kernel
theorem dL_law_475 : decode cL_law 475 = .ok (.iaload, 1) := by decide +kernel
theorem dL_law_476 : decode cL_law 476 = .ok (.invokevirtual 97, 3) := by decide +kernel
theorem dL_law_479 : decode cL_law 479 = .ok (.istore 6, 2) := by decide +kernel
theorem dL_law_481 : decode cL_law 481 = .ok (.aload_n 2, 1) := by decide +kernel
theorem dL_law_482 : decode cL_law 482 = .ok (.invokevirtual 78, 3) := by decide +kernel
theorem dL_law_485 : decode cL_law 485 = .ok (.iload 5, 2) := by decide +kernel
theorem dL_law_487 : decode cL_law 487 = .ok (.if_icmp .eq 5, 3) := by decide +kernel
theorem dL_law_490 : decode cL_law 490 = .ok (.iconst 0, 1) := by decide +kernel
theorem dL_law_491 : decode cL_law 491 = .ok (.ireturn, 1) := by decide +kernel
theorem dL_law_492 : decode cL_law 492 = .ok (.iload 5, 2) := by decide +kernel
theorem dL_law_494 : decode cL_law 494 = .ok (.ifCond .ne 15, 3) := by decide +kernel
theorem dL_law_497 : decode cL_law 497 = .ok (.aload_n 3, 1) := by decide +kernel
theorem dL_law_498 : decode cL_law 498 = .ok (.iconst 0, 1) := by decide +kernel
theorem dL_law_499 : decode cL_law 499 = .ok (.laload, 1) := by decide +kernel
theorem dL_law_500 : decode cL_law 500 = .ok (.iload 6, 2) := by decide +kernel
theorem dL_law_502 : decode cL_law 502 = .ok (.i2l, 1) := by decide +kernel
theorem dL_law_503 : decode cL_law 503 = .ok (.lcmp, 1) := by decide +kernel
theorem dL_law_504 : decode cL_law 504 = .ok (.ifCond .eq 5, 3) := by decide +kernel
theorem dL_law_507 : decode cL_law 507 = .ok (.iconst 0, 1) := by decide +kernel
theorem dL_law_508 : decode cL_law 508 = .ok (.ireturn, 1) := by decide +kernel
theorem dL_law_509 : decode cL_law 509 = .ok (.goto 785, 3) := by decide +kernel
theorem dL_law_512 : decode cL_law 512 = .ok (.aload_n 1, 1) := by decide +kernel
theorem dL_law_513 : decode cL_law 513 = .ok (.invokevirtual 98, 3) := by decide +kernel
theorem dL_law_516 : decode cL_law 516 = .ok (.aload_n 2, 1) := by decide +kernel
theorem dL_law_517 : decode cL_law 517 = .ok (.invokevirtual 101, 3) := by decide +kernel
theorem dL_law_520 : decode cL_law 520 = .ok (.if_icmp .eq 774, 3) := by decide +kernel
theorem dL_law_523 : decode cL_law 523 = .ok (.iconst 0, 1) := by decide +kernel
theorem dL_law_524 : decode cL_law 524 = .ok (.ireturn, 1) := by decide +kernel
theorem dL_law_525 : decode cL_law 525 = .ok (.aload_n 1, 1) := by decide +kernel
theorem dL_law_526 : decode cL_law 526 = .ok (.aload_n 0, 1) := by decide +kernel
theorem dL_law_527 : decode cL_law 527 = .ok (.iload 4, 2) := by decide +kernel
theorem dL_law_529 : decode cL_law 529 = .ok (.iconst 1, 1) := by decide +kernel
theorem dL_law_530 : decode cL_law 530 = .ok (.iadd, 1) := by decide +kernel
theorem dL_law_531 : decode cL_law 531 = .ok (.iaload, 1) := by decide +kernel
theorem dL_law_532 : decode cL_law 532 = .ok (.aload_n 3, 1) := by decide +kernel
theorem dL_law_533 : decode cL_law 533 = .ok (.invokestatic 102, 3) := by decide +kernel
theorem dL_law_536 : decode cL_law 536 = .ok (.istore 5, 2) := by decide +kernel
theorem dL_law_538 : decode cL_law 538 = .ok (.aload_n 2, 1) := by decide +kernel
theorem dL_law_539 : decode cL_law 539 = .ok (.aload_n 0, 1) := by decide +kernel
theorem dL_law_540 : decode cL_law 540 = .ok (.iload 4, 2) := by decide +kernel
theorem dL_law_542 : decode cL_law 542 = .ok (.iconst 1, 1) := by decide +kernel
theorem dL_law_543 : decode cL_law 543 = .ok (.iadd, 1) := by decide +kernel
theorem dL_law_544 : decode cL_law 544 = .ok (.iaload, 1) := by decide +kernel
theorem dL_law_545 : decode cL_law 545 = .ok (.invokevirtual 104, 3) := by decide +kernel
theorem dL_law_548 : decode cL_law 548 = .ok (.istore 6, 2) := by decide +kernel
theorem dL_law_550 : decode cL_law 550 = .ok (.aload_n 2, 1) := by decide +kernel
theorem dL_law_551 : decode cL_law 551 = .ok (.invokevirtual 78, 3) := by decide +kernel
theorem dL_law_554 : decode cL_law 554 = .ok (.iload 5, 2) := by decide +kernel
theorem dL_law_556 : decode cL_law 556 = .ok (.if_icmp .eq 5, 3) := by decide +kernel
theorem dL_law_559 : decode cL_law 559 = .ok (.iconst 0, 1) := by decide +kernel
theorem dL_law_560 : decode cL_law 560 = .ok (.ireturn, 1) := by decide +kernel
theorem dL_law_561 : decode cL_law 561 = .ok (.iload 5, 2) := by decide +kernel
theorem dL_law_563 : decode cL_law 563 = .ok (.ifCond .ne 15, 3) := by decide +kernel
theorem dL_law_566 : decode cL_law 566 = .ok (.aload_n 3, 1) := by decide +kernel
theorem dL_law_567 : decode cL_law 567 = .ok (.iconst 0, 1) := by decide +kernel
theorem dL_law_568 : decode cL_law 568 = .ok (.laload, 1) := by decide +kernel
theorem dL_law_569 : decode cL_law 569 = .ok (.iload 6, 2) := by decide +kernel
theorem dL_law_571 : decode cL_law 571 = .ok (.i2l, 1) := by decide +kernel
theorem dL_law_572 : decode cL_law 572 = .ok (.lcmp, 1) := by decide +kernel
theorem dL_law_573 : decode cL_law 573 = .ok (.ifCond .eq 5, 3) := by decide +kernel
theorem dL_law_576 : decode cL_law 576 = .ok (.iconst 0, 1) := by decide +kernel
theorem dL_law_577 : decode cL_law 577 = .ok (.ireturn, 1) := by decide +kernel
theorem dL_law_578 : decode cL_law 578 = .ok (.goto 716, 3) := by decide +kernel
theorem dL_law_581 : decode cL_law 581 = .ok (.aload_n 1, 1) := by decide +kernel
theorem dL_law_582 : decode cL_law 582 = .ok (.aload_n 0, 1) := by decide +kernel
theorem dL_law_583 : decode cL_law 583 = .ok (.iload 4, 2) := by decide +kernel
theorem dL_law_585 : decode cL_law 585 = .ok (.iconst 1, 1) := by decide +kernel
theorem dL_law_586 : decode cL_law 586 = .ok (.iadd, 1) := by decide +kernel
theorem dL_law_587 : decode cL_law 587 = .ok (.iaload, 1) := by decide +kernel
theorem dL_law_588 : decode cL_law 588 = .ok (.aload_n 3, 1) := by decide +kernel
theorem dL_law_589 : decode cL_law 589 = .ok (.invokestatic 105, 3) := by decide +kernel
theorem dL_law_592 : decode cL_law 592 = .ok (.istore 5, 2) := by decide +kernel
theorem dL_law_594 : decode cL_law 594 = .ok (.aload_n 2, 1) := by decide +kernel
theorem dL_law_595 : decode cL_law 595 = .ok (.aload_n 0, 1) := by decide +kernel
theorem dL_law_596 : decode cL_law 596 = .ok (.iload 4, 2) := by decide +kernel
theorem dL_law_598 : decode cL_law 598 = .ok (.iconst 1, 1) := by decide +kernel
theorem dL_law_599 : decode cL_law 599 = .ok (.iadd, 1) := by decide +kernel
theorem dL_law_600 : decode cL_law 600 = .ok (.iaload, 1) := by decide +kernel
theorem dL_law_601 : decode cL_law 601 = .ok (.invokevirtual 107, 3) := by decide +kernel
theorem dL_law_604 : decode cL_law 604 = .ok (.istore 6, 2) := by decide +kernel
theorem dL_law_606 : decode cL_law 606 = .ok (.aload_n 2, 1) := by decide +kernel
theorem dL_law_607 : decode cL_law 607 = .ok (.invokevirtual 78, 3) := by decide +kernel
theorem dL_law_610 : decode cL_law 610 = .ok (.iload 5, 2) := by decide +kernel
theorem dL_law_612 : decode cL_law 612 = .ok (.if_icmp .eq 5, 3) := by decide +kernel
theorem dL_law_615 : decode cL_law 615 = .ok (.iconst 0, 1) := by decide +kernel
theorem dL_law_616 : decode cL_law 616 = .ok (.ireturn, 1) := by decide +kernel
theorem dL_law_617 : decode cL_law 617 = .ok (.iload 5, 2) := by decide +kernel
theorem dL_law_619 : decode cL_law 619 = .ok (.ifCond .ne 15, 3) := by decide +kernel
theorem dL_law_622 : decode cL_law 622 = .ok (.aload_n 3, 1) := by decide +kernel
theorem dL_law_623 : decode cL_law 623 = .ok (.iconst 0, 1) := by decide +kernel
theorem dL_law_624 : decode cL_law 624 = .ok (.laload, 1) := by decide +kernel
theorem dL_law_625 : decode cL_law 625 = .ok (.iload 6, 2) := by decide +kernel
theorem dL_law_627 : decode cL_law 627 = .ok (.i2l, 1) := by decide +kernel
theorem dL_law_628 : decode cL_law 628 = .ok (.lcmp, 1) := by decide +kernel
theorem dL_law_629 : decode cL_law 629 = .ok (.ifCond .eq 5, 3) := by decide +kernel
theorem dL_law_632 : decode cL_law 632 = .ok (.iconst 0, 1) := by decide +kernel
theorem dL_law_633 : decode cL_law 633 = .ok (.ireturn, 1) := by decide +kernel
theorem dL_law_634 : decode cL_law 634 = .ok (.goto 660, 3) := by decide +kernel
theorem dL_law_637 : decode cL_law 637 = .ok (.aload_n 1, 1) := by decide +kernel
theorem dL_law_638 : decode cL_law 638 = .ok (.aload_n 0, 1) := by decide +kernel
theorem dL_law_639 : decode cL_law 639 = .ok (.iload 4, 2) := by decide +kernel
theorem dL_law_641 : decode cL_law 641 = .ok (.iconst 1, 1) := by decide +kernel
theorem dL_law_642 : decode cL_law 642 = .ok (.iadd, 1) := by decide +kernel
theorem dL_law_643 : decode cL_law 643 = .ok (.iaload, 1) := by decide +kernel
theorem dL_law_644 : decode cL_law 644 = .ok (.aload_n 0, 1) := by decide +kernel
theorem dL_law_645 : decode cL_law 645 = .ok (.iload 4, 2) := by decide +kernel
theorem dL_law_647 : decode cL_law 647 = .ok (.iconst 2, 1) := by decide +kernel
theorem dL_law_648 : decode cL_law 648 = .ok (.iadd, 1) := by decide +kernel
theorem dL_law_649 : decode cL_law 649 = .ok (.iaload, 1) := by decide +kernel
theorem dL_law_650 : decode cL_law 650 = .ok (.aload_n 3, 1) := by decide +kernel
theorem dL_law_651 : decode cL_law 651 = .ok (.invokestatic 108, 3) := by decide +kernel
theorem dL_law_654 : decode cL_law 654 = .ok (.istore 5, 2) := by decide +kernel
theorem dL_law_656 : decode cL_law 656 = .ok (.aload_n 2, 1) := by decide +kernel
theorem dL_law_657 : decode cL_law 657 = .ok (.aload_n 0, 1) := by decide +kernel
theorem dL_law_658 : decode cL_law 658 = .ok (.iload 4, 2) := by decide +kernel
theorem dL_law_660 : decode cL_law 660 = .ok (.iconst 1, 1) := by decide +kernel
theorem dL_law_661 : decode cL_law 661 = .ok (.iadd, 1) := by decide +kernel
theorem dL_law_662 : decode cL_law 662 = .ok (.iaload, 1) := by decide +kernel
theorem dL_law_663 : decode cL_law 663 = .ok (.aload_n 0, 1) := by decide +kernel
theorem dL_law_664 : decode cL_law 664 = .ok (.iload 4, 2) := by decide +kernel
theorem dL_law_666 : decode cL_law 666 = .ok (.iconst 2, 1) := by decide +kernel
theorem dL_law_667 : decode cL_law 667 = .ok (.iadd, 1) := by decide +kernel
theorem dL_law_668 : decode cL_law 668 = .ok (.iaload, 1) := by decide +kernel
theorem dL_law_669 : decode cL_law 669 = .ok (.invokevirtual 110, 3) := by decide +kernel
theorem dL_law_672 : decode cL_law 672 = .ok (.istore 6, 2) := by decide +kernel
theorem dL_law_674 : decode cL_law 674 = .ok (.aload_n 2, 1) := by decide +kernel
theorem dL_law_675 : decode cL_law 675 = .ok (.invokevirtual 78, 3) := by decide +kernel
theorem dL_law_678 : decode cL_law 678 = .ok (.iload 5, 2) := by decide +kernel
theorem dL_law_680 : decode cL_law 680 = .ok (.if_icmp .eq 5, 3) := by decide +kernel
theorem dL_law_683 : decode cL_law 683 = .ok (.iconst 0, 1) := by decide +kernel
theorem dL_law_684 : decode cL_law 684 = .ok (.ireturn, 1) := by decide +kernel
theorem dL_law_685 : decode cL_law 685 = .ok (.iload 5, 2) := by decide +kernel
theorem dL_law_687 : decode cL_law 687 = .ok (.ifCond .ne 15, 3) := by decide +kernel
theorem dL_law_690 : decode cL_law 690 = .ok (.aload_n 3, 1) := by decide +kernel
theorem dL_law_691 : decode cL_law 691 = .ok (.iconst 0, 1) := by decide +kernel
theorem dL_law_692 : decode cL_law 692 = .ok (.laload, 1) := by decide +kernel
theorem dL_law_693 : decode cL_law 693 = .ok (.iload 6, 2) := by decide +kernel
theorem dL_law_695 : decode cL_law 695 = .ok (.i2l, 1) := by decide +kernel
theorem dL_law_696 : decode cL_law 696 = .ok (.lcmp, 1) := by decide +kernel
theorem dL_law_697 : decode cL_law 697 = .ok (.ifCond .eq 5, 3) := by decide +kernel
theorem dL_law_700 : decode cL_law 700 = .ok (.iconst 0, 1) := by decide +kernel
theorem dL_law_701 : decode cL_law 701 = .ok (.ireturn, 1) := by decide +kernel
theorem dL_law_702 : decode cL_law 702 = .ok (.goto 592, 3) := by decide +kernel
theorem dL_law_705 : decode cL_law 705 = .ok (.aload_n 1, 1) := by decide +kernel
theorem dL_law_706 : decode cL_law 706 = .ok (.aload_n 0, 1) := by decide +kernel
theorem dL_law_707 : decode cL_law 707 = .ok (.iload 4, 2) := by decide +kernel
theorem dL_law_709 : decode cL_law 709 = .ok (.iconst 1, 1) := by decide +kernel
theorem dL_law_710 : decode cL_law 710 = .ok (.iadd, 1) := by decide +kernel
theorem dL_law_711 : decode cL_law 711 = .ok (.iaload, 1) := by decide +kernel
theorem dL_law_712 : decode cL_law 712 = .ok (.aload_n 0, 1) := by decide +kernel
theorem dL_law_713 : decode cL_law 713 = .ok (.iload 4, 2) := by decide +kernel
theorem dL_law_715 : decode cL_law 715 = .ok (.iconst 2, 1) := by decide +kernel
theorem dL_law_716 : decode cL_law 716 = .ok (.iadd, 1) := by decide +kernel
theorem dL_law_717 : decode cL_law 717 = .ok (.iaload, 1) := by decide +kernel
theorem dL_law_718 : decode cL_law 718 = .ok (.aload_n 3, 1) := by decide +kernel
theorem dL_law_719 : decode cL_law 719 = .ok (.invokestatic 111, 3) := by decide +kernel
theorem dL_law_722 : decode cL_law 722 = .ok (.istore 5, 2) := by decide +kernel
theorem dL_law_724 : decode cL_law 724 = .ok (.aload_n 2, 1) := by decide +kernel
theorem dL_law_725 : decode cL_law 725 = .ok (.aload_n 0, 1) := by decide +kernel
theorem dL_law_726 : decode cL_law 726 = .ok (.iload 4, 2) := by decide +kernel
theorem dL_law_728 : decode cL_law 728 = .ok (.iconst 1, 1) := by decide +kernel
theorem dL_law_729 : decode cL_law 729 = .ok (.iadd, 1) := by decide +kernel
theorem dL_law_730 : decode cL_law 730 = .ok (.iaload, 1) := by decide +kernel
theorem dL_law_731 : decode cL_law 731 = .ok (.aload_n 0, 1) := by decide +kernel
theorem dL_law_732 : decode cL_law 732 = .ok (.iload 4, 2) := by decide +kernel
theorem dL_law_734 : decode cL_law 734 = .ok (.iconst 2, 1) := by decide +kernel
theorem dL_law_735 : decode cL_law 735 = .ok (.iadd, 1) := by decide +kernel
theorem dL_law_736 : decode cL_law 736 = .ok (.iaload, 1) := by decide +kernel
theorem dL_law_737 : decode cL_law 737 = .ok (.invokevirtual 113, 3) := by decide +kernel
theorem dL_law_740 : decode cL_law 740 = .ok (.istore 6, 2) := by decide +kernel
theorem dL_law_742 : decode cL_law 742 = .ok (.aload_n 2, 1) := by decide +kernel
theorem dL_law_743 : decode cL_law 743 = .ok (.invokevirtual 78, 3) := by decide +kernel
theorem dL_law_746 : decode cL_law 746 = .ok (.iload 5, 2) := by decide +kernel
theorem dL_law_748 : decode cL_law 748 = .ok (.if_icmp .eq 5, 3) := by decide +kernel
theorem dL_law_751 : decode cL_law 751 = .ok (.iconst 0, 1) := by decide +kernel
theorem dL_law_752 : decode cL_law 752 = .ok (.ireturn, 1) := by decide +kernel
theorem dL_law_753 : decode cL_law 753 = .ok (.iload 5, 2) := by decide +kernel
theorem dL_law_755 : decode cL_law 755 = .ok (.ifCond .ne 15, 3) := by decide +kernel
theorem dL_law_758 : decode cL_law 758 = .ok (.aload_n 3, 1) := by decide +kernel
theorem dL_law_759 : decode cL_law 759 = .ok (.iconst 0, 1) := by decide +kernel
theorem dL_law_760 : decode cL_law 760 = .ok (.laload, 1) := by decide +kernel
theorem dL_law_761 : decode cL_law 761 = .ok (.iload 6, 2) := by decide +kernel
theorem dL_law_763 : decode cL_law 763 = .ok (.i2l, 1) := by decide +kernel
theorem dL_law_764 : decode cL_law 764 = .ok (.lcmp, 1) := by decide +kernel
theorem dL_law_765 : decode cL_law 765 = .ok (.ifCond .eq 5, 3) := by decide +kernel
theorem dL_law_768 : decode cL_law 768 = .ok (.iconst 0, 1) := by decide +kernel
theorem dL_law_769 : decode cL_law 769 = .ok (.ireturn, 1) := by decide +kernel
theorem dL_law_770 : decode cL_law 770 = .ok (.goto 524, 3) := by decide +kernel
theorem dL_law_773 : decode cL_law 773 = .ok (.aload_n 1, 1) := by decide +kernel
theorem dL_law_774 : decode cL_law 774 = .ok (.aload_n 0, 1) := by decide +kernel
theorem dL_law_775 : decode cL_law 775 = .ok (.iload 4, 2) := by decide +kernel
theorem dL_law_777 : decode cL_law 777 = .ok (.iconst 1, 1) := by decide +kernel
theorem dL_law_778 : decode cL_law 778 = .ok (.iadd, 1) := by decide +kernel
theorem dL_law_779 : decode cL_law 779 = .ok (.iaload, 1) := by decide +kernel
theorem dL_law_780 : decode cL_law 780 = .ok (.aload_n 0, 1) := by decide +kernel
theorem dL_law_781 : decode cL_law 781 = .ok (.iload 4, 2) := by decide +kernel
theorem dL_law_783 : decode cL_law 783 = .ok (.iconst 2, 1) := by decide +kernel
theorem dL_law_784 : decode cL_law 784 = .ok (.iadd, 1) := by decide +kernel
theorem dL_law_785 : decode cL_law 785 = .ok (.iaload, 1) := by decide +kernel
theorem dL_law_786 : decode cL_law 786 = .ok (.aload_n 3, 1) := by decide +kernel
theorem dL_law_787 : decode cL_law 787 = .ok (.invokestatic 114, 3) := by decide +kernel
theorem dL_law_790 : decode cL_law 790 = .ok (.istore 5, 2) := by decide +kernel
theorem dL_law_792 : decode cL_law 792 = .ok (.aload_n 2, 1) := by decide +kernel
theorem dL_law_793 : decode cL_law 793 = .ok (.aload_n 0, 1) := by decide +kernel
theorem dL_law_794 : decode cL_law 794 = .ok (.iload 4, 2) := by decide +kernel
theorem dL_law_796 : decode cL_law 796 = .ok (.iconst 1, 1) := by decide +kernel
theorem dL_law_797 : decode cL_law 797 = .ok (.iadd, 1) := by decide +kernel
theorem dL_law_798 : decode cL_law 798 = .ok (.iaload, 1) := by decide +kernel
theorem dL_law_799 : decode cL_law 799 = .ok (.aload_n 0, 1) := by decide +kernel
theorem dL_law_800 : decode cL_law 800 = .ok (.iload 4, 2) := by decide +kernel
theorem dL_law_802 : decode cL_law 802 = .ok (.iconst 2, 1) := by decide +kernel
theorem dL_law_803 : decode cL_law 803 = .ok (.iadd, 1) := by decide +kernel
theorem dL_law_804 : decode cL_law 804 = .ok (.iaload, 1) := by decide +kernel
theorem dL_law_805 : decode cL_law 805 = .ok (.invokevirtual 116, 3) := by decide +kernel
theorem dL_law_808 : decode cL_law 808 = .ok (.istore 6, 2) := by decide +kernel
theorem dL_law_810 : decode cL_law 810 = .ok (.aload_n 2, 1) := by decide +kernel
theorem dL_law_811 : decode cL_law 811 = .ok (.invokevirtual 78, 3) := by decide +kernel
theorem dL_law_814 : decode cL_law 814 = .ok (.iload 5, 2) := by decide +kernel
theorem dL_law_816 : decode cL_law 816 = .ok (.if_icmp .eq 5, 3) := by decide +kernel
theorem dL_law_819 : decode cL_law 819 = .ok (.iconst 0, 1) := by decide +kernel
theorem dL_law_820 : decode cL_law 820 = .ok (.ireturn, 1) := by decide +kernel
theorem dL_law_821 : decode cL_law 821 = .ok (.iload 5, 2) := by decide +kernel
theorem dL_law_823 : decode cL_law 823 = .ok (.ifCond .ne 15, 3) := by decide +kernel
theorem dL_law_826 : decode cL_law 826 = .ok (.aload_n 3, 1) := by decide +kernel
theorem dL_law_827 : decode cL_law 827 = .ok (.iconst 0, 1) := by decide +kernel
theorem dL_law_828 : decode cL_law 828 = .ok (.laload, 1) := by decide +kernel
theorem dL_law_829 : decode cL_law 829 = .ok (.iload 6, 2) := by decide +kernel
theorem dL_law_831 : decode cL_law 831 = .ok (.i2l, 1) := by decide +kernel
theorem dL_law_832 : decode cL_law 832 = .ok (.lcmp, 1) := by decide +kernel
theorem dL_law_833 : decode cL_law 833 = .ok (.ifCond .eq 5, 3) := by decide +kernel
theorem dL_law_836 : decode cL_law 836 = .ok (.iconst 0, 1) := by decide +kernel
theorem dL_law_837 : decode cL_law 837 = .ok (.ireturn, 1) := by decide +kernel
theorem dL_law_838 : decode cL_law 838 = .ok (.goto 456, 3) := by decide +kernel
theorem dL_law_841 : decode cL_law 841 = .ok (.aload_n 1, 1) := by decide +kernel
theorem dL_law_842 : decode cL_law 842 = .ok (.aload_n 0, 1) := by decide +kernel
theorem dL_law_843 : decode cL_law 843 = .ok (.iload 4, 2) := by decide +kernel
theorem dL_law_845 : decode cL_law 845 = .ok (.iconst 1, 1) := by decide +kernel
theorem dL_law_846 : decode cL_law 846 = .ok (.iadd, 1) := by decide +kernel
theorem dL_law_847 : decode cL_law 847 = .ok (.iaload, 1) := by decide +kernel
theorem dL_law_848 : decode cL_law 848 = .ok (.aload_n 0, 1) := by decide +kernel
theorem dL_law_849 : decode cL_law 849 = .ok (.iload 4, 2) := by decide +kernel
theorem dL_law_851 : decode cL_law 851 = .ok (.iconst 2, 1) := by decide +kernel
theorem dL_law_852 : decode cL_law 852 = .ok (.iadd, 1) := by decide +kernel
theorem dL_law_853 : decode cL_law 853 = .ok (.iaload, 1) := by decide +kernel
theorem dL_law_854 : decode cL_law 854 = .ok (.aload_n 3, 1) := by decide +kernel
theorem dL_law_855 : decode cL_law 855 = .ok (.invokestatic 117, 3) := by decide +kernel
theorem dL_law_858 : decode cL_law 858 = .ok (.istore 5, 2) := by decide +kernel
theorem dL_law_860 : decode cL_law 860 = .ok (.aload_n 2, 1) := by decide +kernel
theorem dL_law_861 : decode cL_law 861 = .ok (.aload_n 0, 1) := by decide +kernel
theorem dL_law_862 : decode cL_law 862 = .ok (.iload 4, 2) := by decide +kernel
theorem dL_law_864 : decode cL_law 864 = .ok (.iconst 1, 1) := by decide +kernel
theorem dL_law_865 : decode cL_law 865 = .ok (.iadd, 1) := by decide +kernel
theorem dL_law_866 : decode cL_law 866 = .ok (.iaload, 1) := by decide +kernel
theorem dL_law_867 : decode cL_law 867 = .ok (.aload_n 0, 1) := by decide +kernel
theorem dL_law_868 : decode cL_law 868 = .ok (.iload 4, 2) := by decide +kernel
theorem dL_law_870 : decode cL_law 870 = .ok (.iconst 2, 1) := by decide +kernel
theorem dL_law_871 : decode cL_law 871 = .ok (.iadd, 1) := by decide +kernel
theorem dL_law_872 : decode cL_law 872 = .ok (.iaload, 1) := by decide +kernel
theorem dL_law_873 : decode cL_law 873 = .ok (.invokevirtual 119, 3) := by decide +kernel
theorem dL_law_876 : decode cL_law 876 = .ok (.istore 6, 2) := by decide +kernel
theorem dL_law_878 : decode cL_law 878 = .ok (.aload_n 2, 1) := by decide +kernel
theorem dL_law_879 : decode cL_law 879 = .ok (.invokevirtual 78, 3) := by decide +kernel
theorem dL_law_882 : decode cL_law 882 = .ok (.iload 5, 2) := by decide +kernel
theorem dL_law_884 : decode cL_law 884 = .ok (.if_icmp .eq 5, 3) := by decide +kernel
theorem dL_law_887 : decode cL_law 887 = .ok (.iconst 0, 1) := by decide +kernel
theorem dL_law_888 : decode cL_law 888 = .ok (.ireturn, 1) := by decide +kernel
theorem dL_law_889 : decode cL_law 889 = .ok (.iload 5, 2) := by decide +kernel
theorem dL_law_891 : decode cL_law 891 = .ok (.ifCond .ne 15, 3) := by decide +kernel
theorem dL_law_894 : decode cL_law 894 = .ok (.aload_n 3, 1) := by decide +kernel
theorem dL_law_895 : decode cL_law 895 = .ok (.iconst 0, 1) := by decide +kernel
theorem dL_law_896 : decode cL_law 896 = .ok (.laload, 1) := by decide +kernel
theorem dL_law_897 : decode cL_law 897 = .ok (.iload 6, 2) := by decide +kernel
theorem dL_law_899 : decode cL_law 899 = .ok (.i2l, 1) := by decide +kernel
theorem dL_law_900 : decode cL_law 900 = .ok (.lcmp, 1) := by decide +kernel
theorem dL_law_901 : decode cL_law 901 = .ok (.ifCond .eq 5, 3) := by decide +kernel
theorem dL_law_904 : decode cL_law 904 = .ok (.iconst 0, 1) := by decide +kernel
theorem dL_law_905 : decode cL_law 905 = .ok (.ireturn, 1) := by decide +kernel
theorem dL_law_906 : decode cL_law 906 = .ok (.goto 388, 3) := by decide +kernel
theorem dL_law_909 : decode cL_law 909 = .ok (.aload_n 1, 1) := by decide +kernel
theorem dL_law_910 : decode cL_law 910 = .ok (.aload_n 0, 1) := by decide +kernel
theorem dL_law_911 : decode cL_law 911 = .ok (.iload 4, 2) := by decide +kernel
theorem dL_law_913 : decode cL_law 913 = .ok (.iconst 1, 1) := by decide +kernel
theorem dL_law_914 : decode cL_law 914 = .ok (.iadd, 1) := by decide +kernel
theorem dL_law_915 : decode cL_law 915 = .ok (.iaload, 1) := by decide +kernel
theorem dL_law_916 : decode cL_law 916 = .ok (.aload_n 0, 1) := by decide +kernel
theorem dL_law_917 : decode cL_law 917 = .ok (.iload 4, 2) := by decide +kernel
theorem dL_law_919 : decode cL_law 919 = .ok (.iconst 2, 1) := by decide +kernel
theorem dL_law_920 : decode cL_law 920 = .ok (.iadd, 1) := by decide +kernel
theorem dL_law_921 : decode cL_law 921 = .ok (.iaload, 1) := by decide +kernel
theorem dL_law_922 : decode cL_law 922 = .ok (.aload_n 3, 1) := by decide +kernel
theorem dL_law_923 : decode cL_law 923 = .ok (.invokestatic 120, 3) := by decide +kernel
theorem dL_law_926 : decode cL_law 926 = .ok (.istore 5, 2) := by decide +kernel
theorem dL_law_928 : decode cL_law 928 = .ok (.aload_n 2, 1) := by decide +kernel
theorem dL_law_929 : decode cL_law 929 = .ok (.aload_n 0, 1) := by decide +kernel
theorem dL_law_930 : decode cL_law 930 = .ok (.iload 4, 2) := by decide +kernel
theorem dL_law_932 : decode cL_law 932 = .ok (.iconst 1, 1) := by decide +kernel
theorem dL_law_933 : decode cL_law 933 = .ok (.iadd, 1) := by decide +kernel
theorem dL_law_934 : decode cL_law 934 = .ok (.iaload, 1) := by decide +kernel
theorem dL_law_935 : decode cL_law 935 = .ok (.aload_n 0, 1) := by decide +kernel
theorem dL_law_936 : decode cL_law 936 = .ok (.iload 4, 2) := by decide +kernel
theorem dL_law_938 : decode cL_law 938 = .ok (.iconst 2, 1) := by decide +kernel
theorem dL_law_939 : decode cL_law 939 = .ok (.iadd, 1) := by decide +kernel
theorem dL_law_940 : decode cL_law 940 = .ok (.iaload, 1) := by decide +kernel
theorem dL_law_941 : decode cL_law 941 = .ok (.invokevirtual 122, 3) := by decide +kernel
theorem dL_law_944 : decode cL_law 944 = .ok (.istore 6, 2) := by decide +kernel
theorem dL_law_946 : decode cL_law 946 = .ok (.aload_n 2, 1) := by decide +kernel
theorem dL_law_947 : decode cL_law 947 = .ok (.invokevirtual 78, 3) := by decide +kernel
theorem dL_law_950 : decode cL_law 950 = .ok (.iload 5, 2) := by decide +kernel
theorem dL_law_952 : decode cL_law 952 = .ok (.if_icmp .eq 5, 3) := by decide +kernel
theorem dL_law_955 : decode cL_law 955 = .ok (.iconst 0, 1) := by decide +kernel
theorem dL_law_956 : decode cL_law 956 = .ok (.ireturn, 1) := by decide +kernel
theorem dL_law_957 : decode cL_law 957 = .ok (.iload 5, 2) := by decide +kernel
theorem dL_law_959 : decode cL_law 959 = .ok (.ifCond .ne 15, 3) := by decide +kernel
theorem dL_law_962 : decode cL_law 962 = .ok (.aload_n 3, 1) := by decide +kernel
theorem dL_law_963 : decode cL_law 963 = .ok (.iconst 0, 1) := by decide +kernel
theorem dL_law_964 : decode cL_law 964 = .ok (.laload, 1) := by decide +kernel
theorem dL_law_965 : decode cL_law 965 = .ok (.iload 6, 2) := by decide +kernel
theorem dL_law_967 : decode cL_law 967 = .ok (.i2l, 1) := by decide +kernel
theorem dL_law_968 : decode cL_law 968 = .ok (.lcmp, 1) := by decide +kernel
theorem dL_law_969 : decode cL_law 969 = .ok (.ifCond .eq 5, 3) := by decide +kernel
theorem dL_law_972 : decode cL_law 972 = .ok (.iconst 0, 1) := by decide +kernel
theorem dL_law_973 : decode cL_law 973 = .ok (.ireturn, 1) := by decide +kernel
theorem dL_law_974 : decode cL_law 974 = .ok (.goto 320, 3) := by decide +kernel
theorem dL_law_977 : decode cL_law 977 = .ok (.aload_n 1, 1) := by decide +kernel
theorem dL_law_978 : decode cL_law 978 = .ok (.aload_n 0, 1) := by decide +kernel
theorem dL_law_979 : decode cL_law 979 = .ok (.iload 4, 2) := by decide +kernel
theorem dL_law_981 : decode cL_law 981 = .ok (.iconst 1, 1) := by decide +kernel
theorem dL_law_982 : decode cL_law 982 = .ok (.iadd, 1) := by decide +kernel
theorem dL_law_983 : decode cL_law 983 = .ok (.iaload, 1) := by decide +kernel
theorem dL_law_984 : decode cL_law 984 = .ok (.aload_n 3, 1) := by decide +kernel
theorem dL_law_985 : decode cL_law 985 = .ok (.invokestatic 123, 3) := by decide +kernel
theorem dL_law_988 : decode cL_law 988 = .ok (.istore 5, 2) := by decide +kernel
theorem dL_law_990 : decode cL_law 990 = .ok (.aload_n 2, 1) := by decide +kernel
theorem dL_law_991 : decode cL_law 991 = .ok (.aload_n 0, 1) := by decide +kernel
theorem dL_law_992 : decode cL_law 992 = .ok (.iload 4, 2) := by decide +kernel
theorem dL_law_994 : decode cL_law 994 = .ok (.iconst 1, 1) := by decide +kernel
theorem dL_law_995 : decode cL_law 995 = .ok (.iadd, 1) := by decide +kernel
theorem dL_law_996 : decode cL_law 996 = .ok (.iaload, 1) := by decide +kernel
theorem dL_law_997 : decode cL_law 997 = .ok (.invokevirtual 125, 3) := by decide +kernel
theorem dL_law_1000 : decode cL_law 1000 = .ok (.istore 6, 2) := by decide +kernel
theorem dL_law_1002 : decode cL_law 1002 = .ok (.aload_n 2, 1) := by decide +kernel
theorem dL_law_1003 : decode cL_law 1003 = .ok (.invokevirtual 78, 3) := by decide +kernel
theorem dL_law_1006 : decode cL_law 1006 = .ok (.iload 5, 2) := by decide +kernel
theorem dL_law_1008 : decode cL_law 1008 = .ok (.if_icmp .eq 5, 3) := by decide +kernel
theorem dL_law_1011 : decode cL_law 1011 = .ok (.iconst 0, 1) := by decide +kernel
theorem dL_law_1012 : decode cL_law 1012 = .ok (.ireturn, 1) := by decide +kernel
theorem dL_law_1013 : decode cL_law 1013 = .ok (.iload 5, 2) := by decide +kernel
theorem dL_law_1015 : decode cL_law 1015 = .ok (.ifCond .ne 15, 3) := by decide +kernel
theorem dL_law_1018 : decode cL_law 1018 = .ok (.aload_n 3, 1) := by decide +kernel
theorem dL_law_1019 : decode cL_law 1019 = .ok (.iconst 0, 1) := by decide +kernel
theorem dL_law_1020 : decode cL_law 1020 = .ok (.laload, 1) := by decide +kernel
theorem dL_law_1021 : decode cL_law 1021 = .ok (.iload 6, 2) := by decide +kernel
theorem dL_law_1023 : decode cL_law 1023 = .ok (.i2l, 1) := by decide +kernel
theorem dL_law_1024 : decode cL_law 1024 = .ok (.lcmp, 1) := by decide +kernel
theorem dL_law_1025 : decode cL_law 1025 = .ok (.ifCond .eq 5, 3) := by decide +kernel
theorem dL_law_1028 : decode cL_law 1028 = .ok (.iconst 0, 1) := by decide +kernel
theorem dL_law_1029 : decode cL_law 1029 = .ok (.ireturn, 1) := by decide +kernel
theorem dL_law_1030 : decode cL_law 1030 = .ok (.goto 264, 3) := by decide +kernel
theorem dL_law_1033 : decode cL_law 1033 = .ok (.aload_n 1, 1) := by decide +kernel
theorem dL_law_1034 : decode cL_law 1034 = .ok (.aload_n 0, 1) := by decide +kernel
theorem dL_law_1035 : decode cL_law 1035 = .ok (.iload 4, 2) := by decide +kernel
theorem dL_law_1037 : decode cL_law 1037 = .ok (.iconst 1, 1) := by decide +kernel
theorem dL_law_1038 : decode cL_law 1038 = .ok (.iadd, 1) := by decide +kernel
theorem dL_law_1039 : decode cL_law 1039 = .ok (.iaload, 1) := by decide +kernel
theorem dL_law_1040 : decode cL_law 1040 = .ok (.aload_n 0, 1) := by decide +kernel
theorem dL_law_1041 : decode cL_law 1041 = .ok (.iload 4, 2) := by decide +kernel
theorem dL_law_1043 : decode cL_law 1043 = .ok (.iconst 2, 1) := by decide +kernel
theorem dL_law_1044 : decode cL_law 1044 = .ok (.iadd, 1) := by decide +kernel
theorem dL_law_1045 : decode cL_law 1045 = .ok (.iaload, 1) := by decide +kernel
theorem dL_law_1046 : decode cL_law 1046 = .ok (.aload_n 3, 1) := by decide +kernel
theorem dL_law_1047 : decode cL_law 1047 = .ok (.invokestatic 126, 3) := by decide +kernel
theorem dL_law_1050 : decode cL_law 1050 = .ok (.istore 5, 2) := by decide +kernel
theorem dL_law_1052 : decode cL_law 1052 = .ok (.aload_n 2, 1) := by decide +kernel
theorem dL_law_1053 : decode cL_law 1053 = .ok (.aload_n 0, 1) := by decide +kernel
theorem dL_law_1054 : decode cL_law 1054 = .ok (.iload 4, 2) := by decide +kernel
theorem dL_law_1056 : decode cL_law 1056 = .ok (.iconst 1, 1) := by decide +kernel
theorem dL_law_1057 : decode cL_law 1057 = .ok (.iadd, 1) := by decide +kernel
theorem dL_law_1058 : decode cL_law 1058 = .ok (.iaload, 1) := by decide +kernel
theorem dL_law_1059 : decode cL_law 1059 = .ok (.aload_n 0, 1) := by decide +kernel
theorem dL_law_1060 : decode cL_law 1060 = .ok (.iload 4, 2) := by decide +kernel
theorem dL_law_1062 : decode cL_law 1062 = .ok (.iconst 2, 1) := by decide +kernel
theorem dL_law_1063 : decode cL_law 1063 = .ok (.iadd, 1) := by decide +kernel
theorem dL_law_1064 : decode cL_law 1064 = .ok (.iaload, 1) := by decide +kernel
theorem dL_law_1065 : decode cL_law 1065 = .ok (.invokevirtual 128, 3) := by decide +kernel
theorem dL_law_1068 : decode cL_law 1068 = .ok (.istore 6, 2) := by decide +kernel
theorem dL_law_1070 : decode cL_law 1070 = .ok (.aload_n 2, 1) := by decide +kernel
theorem dL_law_1071 : decode cL_law 1071 = .ok (.invokevirtual 78, 3) := by decide +kernel
theorem dL_law_1074 : decode cL_law 1074 = .ok (.iload 5, 2) := by decide +kernel
theorem dL_law_1076 : decode cL_law 1076 = .ok (.if_icmp .eq 5, 3) := by decide +kernel
theorem dL_law_1079 : decode cL_law 1079 = .ok (.iconst 0, 1) := by decide +kernel
theorem dL_law_1080 : decode cL_law 1080 = .ok (.ireturn, 1) := by decide +kernel
theorem dL_law_1081 : decode cL_law 1081 = .ok (.iload 5, 2) := by decide +kernel
theorem dL_law_1083 : decode cL_law 1083 = .ok (.ifCond .ne 15, 3) := by decide +kernel
theorem dL_law_1086 : decode cL_law 1086 = .ok (.aload_n 3, 1) := by decide +kernel
theorem dL_law_1087 : decode cL_law 1087 = .ok (.iconst 0, 1) := by decide +kernel
theorem dL_law_1088 : decode cL_law 1088 = .ok (.laload, 1) := by decide +kernel
theorem dL_law_1089 : decode cL_law 1089 = .ok (.iload 6, 2) := by decide +kernel
theorem dL_law_1091 : decode cL_law 1091 = .ok (.i2l, 1) := by decide +kernel
theorem dL_law_1092 : decode cL_law 1092 = .ok (.lcmp, 1) := by decide +kernel
theorem dL_law_1093 : decode cL_law 1093 = .ok (.ifCond .eq 5, 3) := by decide +kernel
theorem dL_law_1096 : decode cL_law 1096 = .ok (.iconst 0, 1) := by decide +kernel
theorem dL_law_1097 : decode cL_law 1097 = .ok (.ireturn, 1) := by decide +kernel
theorem dL_law_1098 : decode cL_law 1098 = .ok (.goto 196, 3) := by decide +kernel
theorem dL_law_1101 : decode cL_law 1101 = .ok (.aload_n 1, 1) := by decide +kernel
theorem dL_law_1102 : decode cL_law 1102 = .ok (.aload_n 0, 1) := by decide +kernel
theorem dL_law_1103 : decode cL_law 1103 = .ok (.iload 4, 2) := by decide +kernel
theorem dL_law_1105 : decode cL_law 1105 = .ok (.iconst 1, 1) := by decide +kernel
theorem dL_law_1106 : decode cL_law 1106 = .ok (.iadd, 1) := by decide +kernel
theorem dL_law_1107 : decode cL_law 1107 = .ok (.iaload, 1) := by decide +kernel
theorem dL_law_1108 : decode cL_law 1108 = .ok (.aload_n 3, 1) := by decide +kernel
theorem dL_law_1109 : decode cL_law 1109 = .ok (.invokestatic 129, 3) := by decide +kernel
theorem dL_law_1112 : decode cL_law 1112 = .ok (.istore 5, 2) := by decide +kernel
theorem dL_law_1114 : decode cL_law 1114 = .ok (.aload_n 2, 1) := by decide +kernel
theorem dL_law_1115 : decode cL_law 1115 = .ok (.aload_n 0, 1) := by decide +kernel
theorem dL_law_1116 : decode cL_law 1116 = .ok (.iload 4, 2) := by decide +kernel
theorem dL_law_1118 : decode cL_law 1118 = .ok (.iconst 1, 1) := by decide +kernel
theorem dL_law_1119 : decode cL_law 1119 = .ok (.iadd, 1) := by decide +kernel
theorem dL_law_1120 : decode cL_law 1120 = .ok (.iaload, 1) := by decide +kernel
theorem dL_law_1121 : decode cL_law 1121 = .ok (.invokevirtual 131, 3) := by decide +kernel
theorem dL_law_1124 : decode cL_law 1124 = .ok (.istore 6, 2) := by decide +kernel
theorem dL_law_1126 : decode cL_law 1126 = .ok (.aload_n 2, 1) := by decide +kernel
theorem dL_law_1127 : decode cL_law 1127 = .ok (.invokevirtual 78, 3) := by decide +kernel
theorem dL_law_1130 : decode cL_law 1130 = .ok (.iload 5, 2) := by decide +kernel
theorem dL_law_1132 : decode cL_law 1132 = .ok (.if_icmp .eq 5, 3) := by decide +kernel
theorem dL_law_1135 : decode cL_law 1135 = .ok (.iconst 0, 1) := by decide +kernel
theorem dL_law_1136 : decode cL_law 1136 = .ok (.ireturn, 1) := by decide +kernel
theorem dL_law_1137 : decode cL_law 1137 = .ok (.iload 5, 2) := by decide +kernel
theorem dL_law_1139 : decode cL_law 1139 = .ok (.ifCond .ne 15, 3) := by decide +kernel
theorem dL_law_1142 : decode cL_law 1142 = .ok (.aload_n 3, 1) := by decide +kernel
theorem dL_law_1143 : decode cL_law 1143 = .ok (.iconst 0, 1) := by decide +kernel
theorem dL_law_1144 : decode cL_law 1144 = .ok (.laload, 1) := by decide +kernel
theorem dL_law_1145 : decode cL_law 1145 = .ok (.iload 6, 2) := by decide +kernel
theorem dL_law_1147 : decode cL_law 1147 = .ok (.i2l, 1) := by decide +kernel
theorem dL_law_1148 : decode cL_law 1148 = .ok (.lcmp, 1) := by decide +kernel
theorem dL_law_1149 : decode cL_law 1149 = .ok (.ifCond .eq 5, 3) := by decide +kernel
theorem dL_law_1152 : decode cL_law 1152 = .ok (.iconst 0, 1) := by decide +kernel
theorem dL_law_1153 : decode cL_law 1153 = .ok (.ireturn, 1) := by decide +kernel
theorem dL_law_1154 : decode cL_law 1154 = .ok (.goto 140, 3) := by decide +kernel
theorem dL_law_1157 : decode cL_law 1157 = .ok (.aload_n 1, 1) := by decide +kernel
theorem dL_law_1158 : decode cL_law 1158 = .ok (.invokevirtual 132, 3) := by decide +kernel
theorem dL_law_1161 : decode cL_law 1161 = .ok (.aload_n 2, 1) := by decide +kernel
theorem dL_law_1162 : decode cL_law 1162 = .ok (.invokevirtual 135, 3) := by decide +kernel
theorem dL_law_1165 : decode cL_law 1165 = .ok (.if_icmp .eq 129, 3) := by decide +kernel
theorem dL_law_1168 : decode cL_law 1168 = .ok (.iconst 0, 1) := by decide +kernel
theorem dL_law_1169 : decode cL_law 1169 = .ok (.ireturn, 1) := by decide +kernel
theorem dL_law_1170 : decode cL_law 1170 = .ok (.aload_n 1, 1) := by decide +kernel
theorem dL_law_1171 : decode cL_law 1171 = .ok (.aload_n 0, 1) := by decide +kernel
theorem dL_law_1172 : decode cL_law 1172 = .ok (.iload 4, 2) := by decide +kernel
theorem dL_law_1174 : decode cL_law 1174 = .ok (.iconst 1, 1) := by decide +kernel
theorem dL_law_1175 : decode cL_law 1175 = .ok (.iadd, 1) := by decide +kernel
theorem dL_law_1176 : decode cL_law 1176 = .ok (.iaload, 1) := by decide +kernel
theorem dL_law_1177 : decode cL_law 1177 = .ok (.aload_n 3, 1) := by decide +kernel
theorem dL_law_1178 : decode cL_law 1178 = .ok (.invokestatic 136, 3) := by decide +kernel
theorem dL_law_1181 : decode cL_law 1181 = .ok (.istore 5, 2) := by decide +kernel
theorem dL_law_1183 : decode cL_law 1183 = .ok (.aload_n 2, 1) := by decide +kernel
theorem dL_law_1184 : decode cL_law 1184 = .ok (.aload_n 0, 1) := by decide +kernel
theorem dL_law_1185 : decode cL_law 1185 = .ok (.iload 4, 2) := by decide +kernel
theorem dL_law_1187 : decode cL_law 1187 = .ok (.iconst 1, 1) := by decide +kernel
theorem dL_law_1188 : decode cL_law 1188 = .ok (.iadd, 1) := by decide +kernel
theorem dL_law_1189 : decode cL_law 1189 = .ok (.iaload, 1) := by decide +kernel
theorem dL_law_1190 : decode cL_law 1190 = .ok (.invokevirtual 138, 3) := by decide +kernel
theorem dL_law_1193 : decode cL_law 1193 = .ok (.istore 6, 2) := by decide +kernel
theorem dL_law_1195 : decode cL_law 1195 = .ok (.aload_n 2, 1) := by decide +kernel
theorem dL_law_1196 : decode cL_law 1196 = .ok (.invokevirtual 78, 3) := by decide +kernel
theorem dL_law_1199 : decode cL_law 1199 = .ok (.iload 5, 2) := by decide +kernel
theorem dL_law_1201 : decode cL_law 1201 = .ok (.if_icmp .eq 5, 3) := by decide +kernel
theorem dL_law_1204 : decode cL_law 1204 = .ok (.iconst 0, 1) := by decide +kernel
theorem dL_law_1205 : decode cL_law 1205 = .ok (.ireturn, 1) := by decide +kernel
theorem dL_law_1206 : decode cL_law 1206 = .ok (.iload 5, 2) := by decide +kernel
theorem dL_law_1208 : decode cL_law 1208 = .ok (.ifCond .ne 15, 3) := by decide +kernel
theorem dL_law_1211 : decode cL_law 1211 = .ok (.aload_n 3, 1) := by decide +kernel
theorem dL_law_1212 : decode cL_law 1212 = .ok (.iconst 0, 1) := by decide +kernel
theorem dL_law_1213 : decode cL_law 1213 = .ok (.laload, 1) := by decide +kernel
theorem dL_law_1214 : decode cL_law 1214 = .ok (.iload 6, 2) := by decide +kernel
theorem dL_law_1216 : decode cL_law 1216 = .ok (.i2l, 1) := by decide +kernel
theorem dL_law_1217 : decode cL_law 1217 = .ok (.lcmp, 1) := by decide +kernel
theorem dL_law_1218 : decode cL_law 1218 = .ok (.ifCond .eq 5, 3) := by decide +kernel
theorem dL_law_1221 : decode cL_law 1221 = .ok (.iconst 0, 1) := by decide +kernel
theorem dL_law_1222 : decode cL_law 1222 = .ok (.ireturn, 1) := by decide +kernel
theorem dL_law_1223 : decode cL_law 1223 = .ok (.goto 71, 3) := by decide +kernel
theorem dL_law_1226 : decode cL_law 1226 = .ok (.aload_n 1, 1) := by decide +kernel
theorem dL_law_1227 : decode cL_law 1227 = .ok (.invokevirtual 139, 3) := by decide +kernel
theorem dL_law_1230 : decode cL_law 1230 = .ok (.aload_n 2, 1) := by decide +kernel
theorem dL_law_1231 : decode cL_law 1231 = .ok (.invokevirtual 142, 3) := by decide +kernel
theorem dL_law_1234 : decode cL_law 1234 = .ok (.if_icmp .eq 60, 3) := by decide +kernel
theorem dL_law_1237 : decode cL_law 1237 = .ok (.iconst 0, 1) := by decide +kernel
theorem dL_law_1238 : decode cL_law 1238 = .ok (.ireturn, 1) := by decide +kernel
theorem dL_law_1239 : decode cL_law 1239 = .ok (.aload_n 1, 1) := by decide +kernel
theorem dL_law_1240 : decode cL_law 1240 = .ok (.invokevirtual 143, 3) := by decide +kernel
theorem dL_law_1243 : decode cL_law 1243 = .ok (.dstore 5, 2) := by decide +kernel
theorem dL_law_1245 : decode cL_law 1245 = .ok (.aload_n 2, 1) := by decide +kernel
theorem dL_law_1246 : decode cL_law 1246 = .ok (.invokevirtual 147, 3) := by decide +kernel
theorem dL_law_1249 : decode cL_law 1249 = .ok (.dstore 7, 2) := by decide +kernel
theorem dL_law_1251 : decode cL_law 1251 = .ok (.dload 5, 2) := by decide +kernel
theorem dL_law_1253 : decode cL_law 1253 = .ok (.dload 7, 2) := by decide +kernel
theorem dL_law_1255 : decode cL_law 1255 = .ok (.dcmp .l, 1) := by decide +kernel
theorem dL_law_1256 : decode cL_law 1256 = .ok (.ifCond .eq 21, 3) := by decide +kernel
theorem dL_law_1259 : decode cL_law 1259 = .ok (.dload 5, 2) := by decide +kernel
theorem dL_law_1261 : decode cL_law 1261 = .ok (.dload 5, 2) := by decide +kernel
theorem dL_law_1263 : decode cL_law 1263 = .ok (.dcmp .l, 1) := by decide +kernel
theorem dL_law_1264 : decode cL_law 1264 = .ok (.ifCond .eq 11, 3) := by decide +kernel
theorem dL_law_1267 : decode cL_law 1267 = .ok (.dload 7, 2) := by decide +kernel
theorem dL_law_1269 : decode cL_law 1269 = .ok (.dload 7, 2) := by decide +kernel
theorem dL_law_1271 : decode cL_law 1271 = .ok (.dcmp .l, 1) := by decide +kernel
theorem dL_law_1272 : decode cL_law 1272 = .ok (.ifCond .ne 5, 3) := by decide +kernel
theorem dL_law_1275 : decode cL_law 1275 = .ok (.iconst 0, 1) := by decide +kernel
theorem dL_law_1276 : decode cL_law 1276 = .ok (.ireturn, 1) := by decide +kernel
theorem dL_law_1277 : decode cL_law 1277 = .ok (.goto 17, 3) := by decide +kernel
theorem dL_law_1280 : decode cL_law 1280 = .ok (.aload_n 1, 1) := by decide +kernel
theorem dL_law_1281 : decode cL_law 1281 = .ok (.invokevirtual 148, 3) := by decide +kernel
theorem dL_law_1284 : decode cL_law 1284 = .ok (.aload_n 2, 1) := by decide +kernel
theorem dL_law_1285 : decode cL_law 1285 = .ok (.invokevirtual 152, 3) := by decide +kernel
theorem dL_law_1288 : decode cL_law 1288 = .ok (.lcmp, 1) := by decide +kernel
theorem dL_law_1289 : decode cL_law 1289 = .ok (.ifCond .eq 5, 3) := by decide +kernel
theorem dL_law_1292 : decode cL_law 1292 = .ok (.iconst 0, 1) := by decide +kernel
theorem dL_law_1293 : decode cL_law 1293 = .ok (.ireturn, 1) := by decide +kernel
theorem dL_law_1294 : decode cL_law 1294 = .ok (.iinc 4 3, 3) := by decide +kernel
theorem dL_law_1297 : decode cL_law 1297 = .ok (.goto (-1274), 3) := by decide +kernel
theorem dL_law_1300 : decode cL_law 1300 = .ok (.iconst 1, 1) := by decide +kernel
theorem dL_law_1301 : decode cL_law 1301 = .ok (.ireturn, 1) := by decide +kernel
abbrev vwCl : List vw_C := [(RX0, TX0, 6), (RX1, TX1, 2), (RX2, TX2, 7)]
end
section
/-! numbers -/
def fb_rg (f : Nat → Int32) : Nat → Int32 := fun k => f (k % 12)
def fb_ab (x : Int32) : Int32 := if 0 ≤ x then x else 0 - x
def fb_mx (x y : Int32) : Int32 := if x < y then y else x
def fb_mn (x y : Int32) : Int32 := if y < x then y else x
def fb_rm (x y : Int32) : Int32 := x - x / y * y
def fb_fm (x y : Int32) : Int32 := if 0 ≤ (x ^^^ y) then fb_rm x y else if fb_rm x y = 0 then fb_rm x y else fb_rm x y + y
def fb_swt : Nat → Int32 := fun k => match k with
  | 0 => 262 | 1 => 277 | 2 => 294 | 3 => 311 | 4 => 330 | 5 => 349 | 6 => 370 | 7 => 392 | 8 => 415 | 9 => 440 | 10 => 466 | 11 => 494 | _ => 0
theorem fb_rg_lt {f : Nat → Int32} {k : Nat} (h : k < 12) : fb_rg f k = f k := by
  show f (k % 12) = f k
  rw [Nat.mod_eq_of_lt h]
theorem fb_rg_eq {f g : Nat → Int32} (h : ∀ k, k < 12 → f k = g k) : fb_rg f = fb_rg g := by
  funext k
  exact h _ (Nat.mod_lt _ (by decide))
theorem fb_rg_rg (f : Nat → Int32) : fb_rg (fb_rg f) = fb_rg f := by
  funext k
  show f (k % 12 % 12) = f (k % 12)
  rw [Nat.mod_mod]
theorem fb_rg_mod (f : Nat → Int32) (k : Nat) : fb_rg f (k % 12) = fb_rg f k := by
  show f (k % 12 % 12) = f (k % 12)
  rw [Nat.mod_mod]
theorem fb_rm_12 {k : Nat} (h : k < 2 ^ 31) : fb_rm (nI k) 12 = nI (k % 12) := pk_rem (d := 12) h (by decide) (by decide)
theorem fb_fm_12 {k : Nat} (h : k < 2 ^ 31) : fb_fm (nI k) 12 = nI (k % 12) := by
  have e : ¬ (nI k ^^^ 12).toInt < 0 := by
    have h1 : (nI k ^^^ 12).toBitVec = BitVec.ofNat 32 k ^^^ 12#32 := rfl
    rw [show (nI k ^^^ 12).toInt = (nI k ^^^ 12).toBitVec.toInt from rfl, h1]
    have h2 : (BitVec.ofNat 32 k ^^^ 12#32).msb = false := by
      rw [BitVec.msb_xor]
      have h3 : (BitVec.ofNat 32 k).msb = false := by
        rw [BitVec.msb_eq_false_iff_two_mul_lt]
        rw [BitVec.toNat_ofNat, Nat.mod_eq_of_lt (by omega)]
        omega
      rw [h3]
      decide
    have h4 := BitVec.toInt_eq_toNat_of_msb h2
    rw [h4]
    omega
  have h0 : (0 : Int32) ≤ nI k ^^^ 12 := by
    rw [Int32.le_iff_toInt_le]
    have : (0 : Int32).toInt = 0 := by decide
    rw [this]
    omega
  unfold fb_fm
  rw [if_pos h0]
  exact fb_rm_12 h
theorem fb_fm_p {j : Nat} (hj : j < 12) : fb_fm (nI j - 1) 12 = nI ((j + 11) % 12) := by
  have h : ∀ j, j < 12 → fb_fm (nI j - 1) 12 = nI ((j + 11) % 12) := by decide +kernel
  exact h j hj
theorem fb_lp_ex {i N : Nat} (hN : N < 2 ^ 31) (hi : i ≤ N) (c : nI N ≤ nI i) : i = N := by
  have := (nI_leI hN (by omega)).mp c
  omega
theorem fb_lp_in {i N : Nat} (hN : N < 2 ^ 31) (hi : i ≤ N) (c : ¬ nI N ≤ nI i) : i < N := by
  rcases Nat.lt_or_ge i N with h | h
  · exact h
  · exact absurd (nI_le h (by omega)) c
theorem fb_cl {k : Nat} (h : k < 2 ^ 31) : (nI k).toNatClampNeg = k := nI_clamp h
/-! rows of one's own: a read-only method, its body, its calls -/
section FBR
variable {p : Program} {l : Launch} {e : Env} {R : Room} {s : State} {m : MethodId} {args : Array Value} {below : List Frame} {meth : Method} {c : Code} {H : Heap} {locs : List Loc} {cells slots : Nat} {Q : State → Prop}
variable {cc bytes : ByteArray} {pc : Nat} {ls : Array Slot} {rest st0 : List Value} {nL maxL index n fr lo : Nat} {Ts ws ws' : List Cond} {own C : String} {y : MethodName} {ret : Option FieldType} {b : Addr} {As av : List Value} {B : State → Prop} {v : Value}
theorem fb_ti {x z : Int32} (h : x = z) (k : W p l e R s m args below meth c H locs cells slots Q (F0 m pc ls (.int z :: rest))) : W p l e R s m args below meth c H locs cells slots Q (F0 m pc ls (.int x :: rest)) := by rw [h]; exact k
theorem fb_tl {x z : Int64} (h : x = z) (k : W p l e R s m args below meth c H locs cells slots Q (F0 m pc ls (.long z :: rest))) : W p l e R s m args below meth c H locs cells slots Q (F0 m pc ls (.long x :: rest)) := by rw [h]; exact k
def fb_RO (l : Launch) (y : MethodName) (ws : List Cond) (fr lo : Nat) (av : List Value) (B : State → Prop) (v : Value) : Prop :=
  Met l y ws ({ frames := fr, cells := 0, slots := 0, locals := lo }) (va_Pc av B) (k2_QcV v) 0 0 (fun _ => False)
def fb_Bl (B : State → Prop) : Prop := ∀ (U : State) (g : JFrame) (mk : MethodId) (a : Array Value), B U → B (U.calling g mk a)
theorem fb_ro_of (hy : plainName y.cls = true) (hw : ws = Cond.code y cc maxL ret :: ws') (hav : (lg_sl av).length ≤ maxL)
    (body : ∀ (p : Program) (e : Env) (s : State) (m : MethodId) (args : Array Value) (below : List Frame) (meth : Method) (c : Code), p.tables.exec = Jvm.exec → c.code = cc → meth.sig.returnType = ret → c.maxLocals = maxL → meth.locks = false → (∀ w ∈ ws, w.before args s = true) → s.vm.findClass y.cls = some m.cls → B s →
      ∀ ls, lv_has ls maxL (lv_args 0 av) → W p l e ({ frames := fr, cells := 0, slots := 0, locals := lo }) s m args below meth c s.heap [] 0 0 (MQ below (k2_QcV v) args s 0 0 (fun _ => False)) (F0 m 0 ls [])) : fb_RO l y ws fr lo av B v := by
  refine Met.ofW (cc := cc) (maxL := maxL) (ret := ret) hy hw ?_
  intro p e s m args below meth c s₁ Bd hml hv
  obtain ⟨rfl, hB⟩ := hv
  have hl := lv_entry av (n := maxL) hav
  rw [lg_entry_eq]
  exact body p e s m _ below meth c Bd.exec Bd.bytes Bd.returns hml Bd.notSynchronized (atoms_spec (ws := ws) Bd.pre) (findClass_of_methodNamed Bd.named) hB _ hl
theorem fb_iret {x : Int32} {w : Int32} (hx : p.tables.exec = Jvm.exec) (hb : c.code = cc) (hr : meth.sig.returnType = some .int) (hlk : meth.locks = false) (hdg : decode cc pc = .ok (.ireturn, 1)) (h : x = w) :
    W p l e R s m args below meth c s.heap [] 0 0 (MQ below (k2_QcV (.int w)) args s 0 0 (fun _ => False)) (F0 m pc ls [.int x]) :=
  W.iret (v := x) hx hb hr (fun t ht _ => ⟨by rw [h], ht⟩) (fun q hq => absurd hq List.not_mem_nil) hdg hlk
theorem fb_zret {x : Int32} {w : Int32} (hx : p.tables.exec = Jvm.exec) (hb : c.code = cc) (hr : meth.sig.returnType = some .boolean) (hlk : meth.locks = false) (hdg : decode cc pc = .ok (.ireturn, 1)) (hn : narrow .boolean (.int x) = .int x) (h : x = w) :
    W p l e R s m args below meth c s.heap [] 0 0 (MQ below (k2_QcV (.int w)) args s 0 0 (fun _ => False)) (F0 m pc ls [.int x]) :=
  W.zret (v := x) hx hb hr hn (fun t ht _ => ⟨by rw [h], ht⟩) (fun q hq => absurd hq List.not_mem_nil) hdg hlk
theorem fb_lret {x : Int64} {w : Int64} (hx : p.tables.exec = Jvm.exec) (hb : c.code = cc) (hr : meth.sig.returnType = some .long) (hlk : meth.locks = false) (hdg : decode cc pc = .ok (.lreturn, 1)) (h : x = w) :
    W p l e R s m args below meth c s.heap [] 0 0 (MQ below (k2_QcV (.long w)) args s 0 0 (fun _ => False)) (F0 m pc ls [.long x]) :=
  W.lret (v := x) hx hb hr (fun t ht _ => ⟨by rw [h], ht⟩) (fun q hq => absurd hq List.not_mem_nil) hdg hlk
theorem fb_blind (h : fb_Bl B) : FrameBlind (va_Pc av B) := fun a U g mk q => ⟨q.1, h U g mk a q.2⟩
theorem fb_roV (S : CallFix p m c cc nL s args Ts own) (hM : fb_RO l y ws fr lo (.ref b :: As) B v) (hT : GoodIn Ts (wsV own index C y ws)) (hw : ws = Cond.code y bytes maxL ret :: ws')
    (hd : y.cls = C ∧ y.cls ≠ "java/lang/invoke/MethodHandle" ∧ y.cls ≠ "java/lang/invoke/VarHandle" ∧ (parseMethodDescriptor y.desc).map (fun d => d.parameters.length) = some n) (hR : fr + 1 ≤ R.frames ∧ 8 + (maxL + 11) + lo ≤ R.locals)
    (hbl : fb_Bl B) (hrc : ∃ cellB : Cell, H[b]? = some cellB ∧ cellB.vm.isStatics = false ∧ s.vm.findClass C = some cellB.cls) (hB : ∀ U : State, U.heap = H → s.WarmedH U.vm → B U)
    (hn : As.length = n) (hsz : ls.size = nL) (hst : st0 = As.reverse ++ .ref b :: rest) (hW : (rest.map fun v => v.category).sum ≤ 8) (hdg : decode cc pc = .ok (.invokevirtual index, 3)) (hcs : cells ≤ R.cells ∧ slots ≤ R.slots)
    (kk : W p l e R s m args below meth c H locs cells slots Q (F0 m (pc + 3) ls (v :: rest))) : W p l e R s m args below meth c H locs cells slots Q (F0 m pc ls st0) :=
  W.callV (W.runV S hM (cwV n S.2.2.2.2 hT hw rfl rfl hd hR) ⟨fb_blind hbl, hrc, fun U hU hW => ⟨rfl, hB U hU hW⟩⟩ rfl hn hsz hst (lv_room hW) hdg ⟨hcs.1, hcs.2⟩) kk
theorem fb_roS (S : CallFix p m c cc nL s args Ts own) (hM : fb_RO l y ws fr lo As B v) (hT : GoodIn Ts (va_wsS own index y ws)) (hw : ws = Cond.code y bytes maxL ret :: ws')
    (hd : y.cls ≠ "java/lang/invoke/MethodHandle" ∧ y.cls ≠ "java/lang/invoke/VarHandle" ∧ (parseMethodDescriptor y.desc).map (fun d => d.parameters.length) = some n) (hR : fr + 1 ≤ R.frames ∧ 8 + (maxL + 11) + lo ≤ R.locals)
    (hbl : fb_Bl B) (hB : ∀ U : State, U.heap = H → s.WarmedH U.vm → B U)
    (hn : As.length = n) (hsz : ls.size = nL) (hst : st0 = As.reverse ++ rest) (hW : (rest.map fun v => v.category).sum ≤ 8) (hdg : decode cc pc = .ok (.invokestatic index, 3)) (hcs : cells ≤ R.cells ∧ slots ≤ R.slots)
    (kk : W p l e R s m args below meth c H locs cells slots Q (F0 m (pc + 3) ls (v :: rest))) : W p l e R s m args below meth c H locs cells slots Q (F0 m pc ls st0) :=
  W.callV (W.runS S hM (va_cwS n S.2.2.2.2 hT hw rfl rfl hd hR) ⟨fb_blind hbl, fun U hU hW => ⟨rfl, hB U hU hW⟩⟩ rfl hn hsz hst (lv_room hW) hdg ⟨hcs.1, hcs.2⟩) kk
end FBR
theorem fb_Bl_T : fb_Bl (fun _ => True) := fun _ _ _ _ _ => trivial
/-! the world that a read-only method sees -/
def fb_sx (A : Nat → Prop) (U : State) (H : Heap) : Prop :=
  va_Nw (.fieldLinkNest RX0 62 "FifthBeats" "SWINGS" "[I" "FifthBeats") U ∧ (∃ t : Nat, va_Z "FifthBeats" "SWINGS" "[I" (.ref t) A U H ∧ va_T .int t 12 (fun j => .int (fb_swt j)) A U H) ∧ ∃ t : Nat, va_Z "FifthBeatsModel" "SWINGS" "[I" (.ref t) A U H ∧ va_T .int t 12 (fun j => .int (fb_swt j)) A U H
theorem fb_sx.moved {A : Nat → Prop} {u U : State} {H : Heap} (hW : u.WarmedH U.vm) (h : fb_sx A u H) : fb_sx A U H := by
  obtain ⟨h1, ⟨t1, h2, h3⟩, t2, h4, h5⟩ := h
  exact ⟨h1.warmF hW, ⟨t1, h2.moved hW.alike, h3.moved hW.alike⟩, t2, h4.moved hW.alike, h5.moved hW.alike⟩
theorem fb_sx.kept {A : Nat → Prop} {U : State} {H H1 : Heap} (h : fb_sx A U H) (hq : ∀ a : Nat, a < H.size → ¬ A a → H1[a]? = H[a]?) : fb_sx A U H1 := by
  obtain ⟨h1, ⟨t1, h2, h3⟩, t2, h4, h5⟩ := h
  exact ⟨h1, ⟨t1, h2.kept hq, h3.kept hq⟩, t2, h4.kept hq, h5.kept hq⟩
theorem fb_sx.narrow {A B : Nat → Prop} {U : State} {H : Heap} (h : fb_sx A U H) (hAB : ∀ q, B q → A q) : fb_sx B U H := by
  obtain ⟨h1, ⟨t1, h2, h3⟩, t2, h4, h5⟩ := h
  exact ⟨h1, ⟨t1, h2.narrow hAB, h3.narrow hAB⟩, t2, h4.narrow hAB, h5.narrow hAB⟩
theorem fb_sx.calling {A : Nat → Prop} {U : State} {g : JFrame} {mk : MethodId} {a : Array Value} (h : fb_sx A U U.heap) : fb_sx A (U.calling g mk a) (U.calling g mk a).heap := by
  obtain ⟨h1, ⟨t1, h2, h3⟩, t2, h4, h5⟩ := h
  exact ⟨h1.same rfl rfl, ⟨t1, h2.moved (U := U.calling g mk a) (Vm.Alike.refl U.vm), h3.moved (U := U.calling g mk a) (Vm.Alike.refl U.vm)⟩, t2, h4.moved (U := U.calling g mk a) (Vm.Alike.refl U.vm), h5.moved (U := U.calling g mk a) (Vm.Alike.refl U.vm)⟩
abbrev fb_ty (cI cL : ClassId) : List (ClassId × FieldType) := [(cI, .int), (cL, .long)]
def fb_PB (G : va_G) (cI cL : ClassId) (ws : va_W) (U : State) : Prop := va_P G vwCl ws U.heap ∧ va_K G vwCl (fb_ty cI cL) U ∧ fb_sx (fun _ => False) U U.heap
theorem fb_PB.bl (G : va_G) (cI cL : ClassId) (ws : va_W) : fb_Bl (fb_PB G cI cL ws) := fun U g mk a h =>
  ⟨h.1, va_K.moved (u := U) (U := U.calling g mk a) (Vm.Alike.refl U.vm) h.2.1, h.2.2.calling⟩
theorem fb_PB.to {G : va_G} {cI cL : ClassId} {ws : va_W} {s : State} {H : Heap} (hP : va_P G vwCl ws H) (hK : va_K G vwCl (fb_ty cI cL) s) (hX : fb_sx (fun _ => False) s H) : ∀ U : State, U.heap = H → s.WarmedH U.vm → fb_PB G cI cL ws U := fun U hU hW =>
  ⟨by rw [hU]; exact hP, va_K.moved hW.alike hK, by rw [hU]; exact hX.moved hW⟩
abbrev fb_PW (cI : ClassId) (h n o d f : Nat) (nf uf df tf : Nat → Int32) (w dy : Int32) : va_W := [(h, .inr (0, [.ref n, .ref o, .ref d, .ref f, .int w, .int dy])), (n, .inl (cI, 12, .inl nf)), (o, .inl (cI, 12, .inl uf)), (d, .inl (cI, 12, .inl df)), (f, .inl (cI, 12, .inl tf))]
abbrev fb_MW (cI : ClassId) (h n d f o : Nat) (pf df tf uf : Nat → Int32) (th dy w : Int32) : va_W := [(h, .inr (2, [.int th, .int dy, .int w, .ref n, .ref d, .ref f, .ref o])), (n, .inl (cI, 12, .inl pf)), (d, .inl (cI, 12, .inl df)), (f, .inl (cI, 12, .inl tf)), (o, .inl (cI, 12, .inl uf))]
end
section
/-! what the piano tells, over the plan P and the strings O as functions around the ring -/
def fb_na (P O : Nat → Int32) (k : Nat) : Int32 := P k + O k - O (k + 1)
def fb_mj (P O : Nat → Int32) (k : Nat) : Nat → Int32
  | 0 => 22
  | n + 1 => fb_mj P O k n - fb_na P O (k + n)
def fb_mi (P O : Nat → Int32) (k : Nat) : Nat → Int32
  | 0 => 294
  | n + 1 => fb_mi P O k n + fb_na P O (k + (9 + n))
def fb_ht (P O : Nat → Int32) : Nat → Int32
  | 0 => 0
  | n + 1 => fb_ht P O n + (702 - fb_na P O n)
def fb_sw (k : Nat) : Int32 := fb_swt (7 * k % 12)
def fb_fb (P O : Nat → Int32) (k : Nat) : Int32 := fb_sw k * fb_ab (fb_na P O k) * 100 / 577
def fb_mb (P O : Nat → Int32) (k : Nat) : Int32 := fb_sw k * fb_ab (fb_mj P O k 4) * 100 / 346
def fb_so (P O : Nat → Int32) (k : Nat) : Int32 := fb_ab (fb_mj P O k 4) + 2 * fb_ab (fb_na P O k)
def fb_pl (P O : Nat → Int32) (k : Nat) : Nat → Int32
  | 0 => 1
  | n + 1 => if fb_so P O n < fb_so P O k ∨ (fb_so P O n = fb_so P O k ∧ n < k) then fb_pl P O k n + 1 else fb_pl P O k n
def fb_co (P O F : Nat → Int32) : Nat → Int32
  | 0 => 0
  | n + 1 => fb_co P O F n + fb_so P O n * F n
def fb_su (P O : Nat → Int32) : Nat → Int32
  | 0 => 0
  | n + 1 => fb_su P O n + fb_so P O n
def fb_mm (P O : Nat → Int32) : Nat → Int32
  | 0 => 0
  | n + 1 => fb_mx (fb_mm P O n) (fb_ab (fb_mj P O n 4))
def fb_pu (P O : Nat → Int32) : Nat → Int32
  | 0 => 0
  | n + 1 => if fb_na P O n = 0 then fb_pu P O n + 1 else fb_pu P O n
def fb_mo (O : Nat → Int32) : Nat → Int32
  | 0 => 0
  | n + 1 => fb_mx (fb_mo O n) (fb_ab (O n))
def fb_ao (O : Nat → Int32) : Nat → Int32
  | 0 => 0
  | n + 1 => fb_ao O n + fb_ab (O n)
def fb_fa (P O : Nat → Int32) (w : Nat) : Nat → Int32
  | 0 => 0
  | n + 1 => if n = w then fb_fa P O w n else fb_mx (fb_fa P O w n) (fb_fb P O n)
def fb_tF (P O : Nat → Int32) (w j q : Nat) : Int32 := match q with
  | 0 => P j
  | 1 => fb_na P O j
  | 2 => 702 - fb_na P O j
  | 3 => fb_fb P O j
  | _ => if j = w then 1 else 0
def fb_tM (P O : Nat → Int32) (j q : Nat) : Int32 := match q with
  | 0 => 386 + fb_mj P O j 4
  | 1 => fb_mj P O j 4
  | _ => fb_mb P O j
def fb_tI (P O : Nat → Int32) (j q : Nat) : Int32 := match q with
  | 0 => fb_mi P O j 3
  | _ => fb_mi P O j 3 - 316
def fb_tN (P O D : Nat → Int32) (j q : Nat) : Int32 := match q with
  | 0 => O j
  | 1 => D j
  | 2 => nI (7 * j % 12)
  | 3 => fb_sw j
  | _ => fb_fm (fb_ht P O j) 1200
def fb_tK (P O F : Nat → Int32) (j q : Nat) : Int32 := match q with
  | 0 => F j
  | 1 => fb_so P O j
  | 2 => fb_so P O j * F j
  | _ => fb_pl P O j 12
def fb_tC (P O F : Nat → Int32) (w : Nat) (dy : Int32) (q : Nat) : Int32 := match q with
  | 0 => dy
  | 1 => nI w
  | 2 => fb_co P O F 12
  | 3 => fb_mm P O 12
  | 4 => fb_pu P O 12
  | 5 => fb_ao O 12
  | _ => fb_fa P O w 12
end
section
set_option maxHeartbeats 4000000 in
set_option maxRecDepth 100000 in
theorem fb_c_J9_floorMod (l : Launch) (x y : Int32) (hy : ¬ y = 0) : fb_RO l yJ9_floorMod_7cf53 wsJ9_floorMod_7cf53 0 0 [.int x, .int y] (fun _ => True) (.int (fb_fm x y)) := by
  refine fb_ro_of (cc := cJ9_floorMod_7cf53) (maxL := 3) (ret := (some .int)) (by decide) rfl (Nat.le_of_ble_eq_true rfl) ?_
  intro p e s m args below meth c hx hb hr hml hlk hts hown hB ls hl
  have hl : lv_has ls 3 [(0, .int x), (1, .int y)] := hl
  refine lv_iload_n hx hb dJ9_floorMod_7cf53_0 rfl (lv_at hl 0 rfl) ?_
  refine lv_iload_n hx hb dJ9_floorMod_7cf53_1 rfl (lv_at hl 1 rfl) ?_
  refine lv_irem hx hb dJ9_floorMod_7cf53_2 (hy) ?_
  refine fb_ti (z := fb_rm x y) (rfl) ?_
  refine lv_istore_n (lv' := [(2, .int (fb_rm x y)), (0, .int x), (1, .int y)]) hx hb dJ9_floorMod_7cf53_3 rfl hl (by decide) rfl (fun ls hl => ?_)
  refine lv_iload_n hx hb dJ9_floorMod_7cf53_4 rfl (lv_at hl 1 rfl) ?_
  refine lv_iload_n hx hb dJ9_floorMod_7cf53_5 rfl (lv_at hl 2 rfl) ?_
  refine lv_ixor hx hb dJ9_floorMod_7cf53_6 ?_
  refine lv_if_ge (tgt := 18) hx hb dJ9_floorMod_7cf53_7 (by decide) (fun c7 => ?_) (fun c7 => ?_)
  · skip
    refine lv_iload_n hx hb dJ9_floorMod_7cf53_18 rfl (lv_at hl 0 rfl) ?_
    exact fb_iret hx hb hr hlk dJ9_floorMod_7cf53_19 (by unfold fb_fm; rw [if_pos c7])
  · skip
    refine lv_iload_n hx hb dJ9_floorMod_7cf53_10 rfl (lv_at hl 0 rfl) ?_
    refine lv_if_eq (tgt := 18) hx hb dJ9_floorMod_7cf53_11 (by decide) (fun c11 => ?_) (fun c11 => ?_)
    · skip
      refine lv_iload_n hx hb dJ9_floorMod_7cf53_18 rfl (lv_at hl 0 rfl) ?_
      exact fb_iret hx hb hr hlk dJ9_floorMod_7cf53_19 (by unfold fb_fm; rw [if_neg c7, if_pos c11])
    · skip
      refine lv_iload_n hx hb dJ9_floorMod_7cf53_14 rfl (lv_at hl 0 rfl) ?_
      refine lv_iload_n hx hb dJ9_floorMod_7cf53_15 rfl (lv_at hl 2 rfl) ?_
      refine lv_iadd hx hb dJ9_floorMod_7cf53_16 ?_
      exact fb_iret hx hb hr hlk dJ9_floorMod_7cf53_17 (by unfold fb_fm; rw [if_neg c7, if_neg c11])
set_option maxHeartbeats 4000000 in
set_option maxRecDepth 100000 in
theorem fb_c_X0_narrowness (l : Launch) (G : va_G) (cI cL : ClassId) (h n o d f : Nat) (nf uf df tf : Nat → Int32) (w : Nat) (dy : Int32) (j : Nat) (hj : j < 1000) : fb_RO l yX0_narrowness wsX0_narrowness 1 22 [.ref h, .int (nI j)] (fb_PB G cI cL (fb_PW cI h n o d f nf uf df tf (nI w) dy)) (.int (fb_na (fb_rg nf) (fb_rg uf) j)) := by
  refine fb_ro_of (cc := cX0_narrowness) (maxL := 4) (ret := (some .int)) (by decide) rfl (Nat.le_of_ble_eq_true rfl) ?_
  intro p e s m args below meth c hx hb hr hml hlk hts hown hB ls hl
  have hown : s.vm.findClass RX0 = some m.cls := hown
  obtain ⟨hP, hK, hX⟩ := hB
  have hP : va_P G vwCl [(h, .inr (0, [.ref n, .ref o, .ref d, .ref f, .int (nI w), .int dy])), (n, .inl (cI, 12, .inl nf)), (o, .inl (cI, 12, .inl uf)), (d, .inl (cI, 12, .inl df)), (f, .inl (cI, 12, .inl tf))] s.heap := hP
  have hl : lv_has ls 4 [(0, .ref h), (1, .int (nI j))] := hl
  have hin0 : ∀ w ∈ u_ws RX0 TX0 6, w ∈ wsX0_narrowness := by decide +kernel
  have hS9 : va_S (fun _ => False) s.heap s.heap [] := va_S.rf
  refine lv_iload_n hx hb dX0_narrowness_0 rfl (lv_at hl 1 rfl) ?_
  refine lv_bipush (v := 12) hx hb dX0_narrowness_1 (by decide) ?_
  refine fb_roS (As := [.int (nI j), .int 12]) (rest := []) (n := 2) ⟨hx, hb, hml, hown, hts⟩ (fb_c_J9_floorMod l (nI j) 12 (by decide)) gX0_narrowness_J9_floorMod_7cf53 rfl (by decide +kernel) (by decide) fb_Bl_T (fun _ _ _ => trivial) rfl hl.1 rfl (by decide) dX0_narrowness_3 (by decide) ?_
  refine fb_ti (z := nI (j % 12)) (fb_fm_12 (by omega)) ?_
  refine lv_istore_n (lv' := [(2, .int (nI (j % 12))), (0, .ref h), (1, .int (nI j))]) hx hb dX0_narrowness_6 rfl hl (by decide) rfl (fun ls hl => ?_)
  refine lv_iload_n hx hb dX0_narrowness_7 rfl (lv_at hl 2 rfl) ?_
  refine lv_iconst (v := 1) hx hb dX0_narrowness_8 (by decide) ?_
  refine lv_iadd hx hb dX0_narrowness_9 ?_
  refine fb_ti (z := nI (j + 1)) (nI_add j 1) ?_
  refine lv_bipush (v := 12) hx hb dX0_narrowness_10 (by decide) ?_
  refine fb_roS (As := [.int (nI (j + 1)), .int 12]) (rest := []) (n := 2) ⟨hx, hb, hml, hown, hts⟩ (fb_c_J9_floorMod l (nI (j + 1)) 12 (by decide)) gX0_narrowness_J9_floorMod_7cf53 rfl (by decide +kernel) (by decide) fb_Bl_T (fun _ _ _ => trivial) rfl hl.1 rfl (by decide) dX0_narrowness_12 (by decide) ?_
  refine fb_ti (z := nI ((j + 1) % 12)) (fb_fm_12 (by omega)) ?_
  refine lv_istore_n (lv' := [(3, .int (nI ((j + 1) % 12))), (2, .int (nI (j % 12))), (0, .ref h), (1, .int (nI j))]) hx hb dX0_narrowness_15 rfl hl (by decide) rfl (fun ls hl => ?_)
  refine lv_aload_n hx hb dX0_narrowness_16 rfl (lv_at hl 2 rfl) ?_
  refine va_get (D := G) (ci := 0) (v := .ref n) (C := RX0) (T := TX0) (N := 6) hx hb hts (hin0) hown hK hP 0 rfl rfl 0 (by decide) (hts (.fieldLink RX0 9 "FifthBeats$Piano" "narrow" "[I") (by decide +kernel)) (fun _ h9 => h9) rfl dX0_narrowness_17 ?_
  refine lv_iload_n hx hb dX0_narrowness_20 rfl (lv_at hl 1 rfl) ?_
  refine va_iald hx hb hK hP 1 0 rfl rfl (vp_in_nI (Nat.mod_lt _ (by decide)) (by decide)) dX0_narrowness_21 ?_
  refine fb_ti (z := fb_rg nf j) (by rw [fb_cl (by omega)]; rfl) ?_
  refine lv_aload_n hx hb dX0_narrowness_22 rfl (lv_at hl 2 rfl) ?_
  refine va_get (D := G) (ci := 0) (v := .ref o) (C := RX0) (T := TX0) (N := 6) hx hb hts (hin0) hown hK hP 0 rfl rfl 1 (by decide) (hts (.fieldLink RX0 15 "FifthBeats$Piano" "off" "[I") (by decide +kernel)) (fun _ h9 => h9) rfl dX0_narrowness_23 ?_
  refine lv_iload_n hx hb dX0_narrowness_26 rfl (lv_at hl 1 rfl) ?_
  refine va_iald hx hb hK hP 2 0 rfl rfl (vp_in_nI (Nat.mod_lt _ (by decide)) (by decide)) dX0_narrowness_27 ?_
  refine fb_ti (z := fb_rg uf j) (by rw [fb_cl (by omega)]; rfl) ?_
  refine lv_iadd hx hb dX0_narrowness_28 ?_
  refine lv_aload_n hx hb dX0_narrowness_29 rfl (lv_at hl 2 rfl) ?_
  refine va_get (D := G) (ci := 0) (v := .ref o) (C := RX0) (T := TX0) (N := 6) hx hb hts (hin0) hown hK hP 0 rfl rfl 1 (by decide) (hts (.fieldLink RX0 15 "FifthBeats$Piano" "off" "[I") (by decide +kernel)) (fun _ h9 => h9) rfl dX0_narrowness_30 ?_
  refine lv_iload_n hx hb dX0_narrowness_33 rfl (lv_at hl 0 rfl) ?_
  refine va_iald hx hb hK hP 2 0 rfl rfl (vp_in_nI (Nat.mod_lt _ (by decide)) (by decide)) dX0_narrowness_34 ?_
  refine fb_ti (z := fb_rg uf (j + 1)) (by rw [fb_cl (by omega)]; rfl) ?_
  refine lv_isub hx hb dX0_narrowness_35 ?_
  exact fb_iret hx hb hr hlk dX0_narrowness_36 (rfl)
set_option maxHeartbeats 4000000 in
set_option maxRecDepth 100000 in
theorem fb_c_X0_fifthWidth (l : Launch) (G : va_G) (cI cL : ClassId) (h n o d f : Nat) (nf uf df tf : Nat → Int32) (w : Nat) (dy : Int32) (j : Nat) (hj : j < 1000) : fb_RO l yX0_fifthWidth wsX0_fifthWidth 2 45 [.ref h, .int (nI j)] (fb_PB G cI cL (fb_PW cI h n o d f nf uf df tf (nI w) dy)) (.int (702 - fb_na (fb_rg nf) (fb_rg uf) j)) := by
  refine fb_ro_of (cc := cX0_fifthWidth) (maxL := 2) (ret := (some .int)) (by decide) rfl (Nat.le_of_ble_eq_true rfl) ?_
  intro p e s m args below meth c hx hb hr hml hlk hts hown hB ls hl
  have hown : s.vm.findClass RX0 = some m.cls := hown
  obtain ⟨hP, hK, hX⟩ := hB
  have hP : va_P G vwCl [(h, .inr (0, [.ref n, .ref o, .ref d, .ref f, .int (nI w), .int dy])), (n, .inl (cI, 12, .inl nf)), (o, .inl (cI, 12, .inl uf)), (d, .inl (cI, 12, .inl df)), (f, .inl (cI, 12, .inl tf))] s.heap := hP
  have hl : lv_has ls 2 [(0, .ref h), (1, .int (nI j))] := hl
  have hS9 : va_S (fun _ => False) s.heap s.heap [] := va_S.rf
  refine lv_sipush (v := 702) hx hb dX0_fifthWidth_0 (by decide) ?_
  refine lv_aload_n hx hb dX0_fifthWidth_3 rfl (lv_at hl 0 rfl) ?_
  refine lv_iload_n hx hb dX0_fifthWidth_4 rfl (lv_at hl 1 rfl) ?_
  refine fb_roV (As := [.int (nI j)]) (rest := [.int 702]) (n := 1) ⟨hx, hb, hml, hown, hts⟩ (fb_c_X0_narrowness l G cI cL h n o d f nf uf df tf w dy j (by omega)) gX0_fifthWidth_X0_narrowness rfl (by decide +kernel) (by decide) (fb_PB.bl _ _ _ _) (va_recv hK hP (ci := 0) (q0 := 0) rfl rfl) (fb_PB.to hP hK hX) rfl hl.1 rfl (by decide) dX0_fifthWidth_5 (by decide) ?_
  refine lv_isub hx hb dX0_fifthWidth_8 ?_
  exact fb_iret hx hb hr hlk dX0_fifthWidth_9 (rfl)
set_option maxHeartbeats 4000000 in
set_option maxRecDepth 100000 in
theorem fb_c_X0_keyboardNumber (l : Launch) (G : va_G) (cI cL : ClassId) (h n o d f : Nat) (nf uf df tf : Nat → Int32) (w : Nat) (dy : Int32) (j : Nat) (hj : j < 1000) : fb_RO l yX0_keyboardNumber wsX0_keyboardNumber 1 22 [.ref h, .int (nI j)] (fb_PB G cI cL (fb_PW cI h n o d f nf uf df tf (nI w) dy)) (.int (nI (7 * j % 12))) := by
  refine fb_ro_of (cc := cX0_keyboardNumber) (maxL := 2) (ret := (some .int)) (by decide) rfl (Nat.le_of_ble_eq_true rfl) ?_
  intro p e s m args below meth c hx hb hr hml hlk hts hown hB ls hl
  have hown : s.vm.findClass RX0 = some m.cls := hown
  obtain ⟨hP, hK, hX⟩ := hB
  have hP : va_P G vwCl [(h, .inr (0, [.ref n, .ref o, .ref d, .ref f, .int (nI w), .int dy])), (n, .inl (cI, 12, .inl nf)), (o, .inl (cI, 12, .inl uf)), (d, .inl (cI, 12, .inl df)), (f, .inl (cI, 12, .inl tf))] s.heap := hP
  have hl : lv_has ls 2 [(0, .ref h), (1, .int (nI j))] := hl
  have hS9 : va_S (fun _ => False) s.heap s.heap [] := va_S.rf
  refine lv_bipush (v := 7) hx hb dX0_keyboardNumber_0 (by decide) ?_
  refine lv_iload_n hx hb dX0_keyboardNumber_2 rfl (lv_at hl 1 rfl) ?_
  refine lv_imul hx hb dX0_keyboardNumber_3 ?_
  refine fb_ti (z := nI (7 * j)) (pk_mul 7 j) ?_
  refine lv_bipush (v := 12) hx hb dX0_keyboardNumber_4 (by decide) ?_
  refine fb_roS (As := [.int (nI (7 * j)), .int 12]) (rest := []) (n := 2) ⟨hx, hb, hml, hown, hts⟩ (fb_c_J9_floorMod l (nI (7 * j)) 12 (by decide)) gX0_keyboardNumber_J9_floorMod_7cf53 rfl (by decide +kernel) (by decide) fb_Bl_T (fun _ _ _ => trivial) rfl hl.1 rfl (by decide) dX0_keyboardNumber_6 (by decide) ?_
  refine fb_ti (z := nI ((7 * j) % 12)) (fb_fm_12 (by omega)) ?_
  exact fb_iret hx hb hr hlk dX0_keyboardNumber_9 (rfl)
set_option maxHeartbeats 4000000 in
set_option maxRecDepth 100000 in
theorem fb_c_X0_swings (l : Launch) (G : va_G) (cI cL : ClassId) (h n o d f : Nat) (nf uf df tf : Nat → Int32) (w : Nat) (dy : Int32) (j : Nat) (hj : j < 1000) : fb_RO l yX0_swings wsX0_swings 2 43 [.ref h, .int (nI j)] (fb_PB G cI cL (fb_PW cI h n o d f nf uf df tf (nI w) dy)) (.int (fb_sw j)) := by
  refine fb_ro_of (cc := cX0_swings) (maxL := 2) (ret := (some .int)) (by decide) rfl (Nat.le_of_ble_eq_true rfl) ?_
  intro p e s m args below meth c hx hb hr hml hlk hts hown hB ls hl
  have hown : s.vm.findClass RX0 = some m.cls := hown
  obtain ⟨hP, hK, hX⟩ := hB
  have hP : va_P G vwCl [(h, .inr (0, [.ref n, .ref o, .ref d, .ref f, .int (nI w), .int dy])), (n, .inl (cI, 12, .inl nf)), (o, .inl (cI, 12, .inl uf)), (d, .inl (cI, 12, .inl df)), (f, .inl (cI, 12, .inl tf))] s.heap := hP
  have hl : lv_has ls 2 [(0, .ref h), (1, .int (nI j))] := hl
  have hS9 : va_S (fun _ => False) s.heap s.heap [] := va_S.rf
  obtain ⟨hNw, ⟨t9, hZ9, hT9⟩, -⟩ := hX
  refine va_getsN (C := "FifthBeats") (n := "SWINGS") (d := "[I") hx hb hZ9 hS9 hown (hNw.use rfl) (fun _ h9 => h9) dX0_swings_0 ?_
  refine lv_aload_n hx hb dX0_swings_3 rfl (lv_at hl 0 rfl) ?_
  refine lv_iload_n hx hb dX0_swings_4 rfl (lv_at hl 1 rfl) ?_
  refine fb_roV (As := [.int (nI j)]) (rest := [.ref t9]) (n := 1) ⟨hx, hb, hml, hown, hts⟩ (fb_c_X0_keyboardNumber l G cI cL h n o d f nf uf df tf w dy j (by omega)) gX0_swings_X0_keyboardNumber rfl (by decide +kernel) (by decide) (fb_PB.bl _ _ _ _) (va_recv hK hP (ci := 0) (q0 := 0) rfl rfl) (fb_PB.to hP hK hX) rfl hl.1 rfl (by decide) dX0_swings_5 (by decide) ?_
  refine va_ti hx hb hT9 hS9 (vp_in_nI (Nat.mod_lt _ (by decide)) (by decide)) rfl dX0_swings_8 ?_
  refine fb_ti (z := fb_swt (7 * j % 12)) (by rw [fb_cl (by omega)]) ?_
  exact fb_iret hx hb hr hlk dX0_swings_9 (rfl)
set_option maxHeartbeats 4000000 in
set_option maxRecDepth 100000 in
theorem fb_c_X0_fifthBeats (l : Launch) (G : va_G) (cI cL : ClassId) (h n o d f : Nat) (nf uf df tf : Nat → Int32) (w : Nat) (dy : Int32) (j : Nat) (hj : j < 1000) : fb_RO l yX0_fifthBeats wsX0_fifthBeats 3 64 [.ref h, .int (nI j)] (fb_PB G cI cL (fb_PW cI h n o d f nf uf df tf (nI w) dy)) (.int (fb_fb (fb_rg nf) (fb_rg uf) j)) := by
  refine fb_ro_of (cc := cX0_fifthBeats) (maxL := 2) (ret := (some .int)) (by decide) rfl (Nat.le_of_ble_eq_true rfl) ?_
  intro p e s m args below meth c hx hb hr hml hlk hts hown hB ls hl
  have hown : s.vm.findClass RX0 = some m.cls := hown
  obtain ⟨hP, hK, hX⟩ := hB
  have hP : va_P G vwCl [(h, .inr (0, [.ref n, .ref o, .ref d, .ref f, .int (nI w), .int dy])), (n, .inl (cI, 12, .inl nf)), (o, .inl (cI, 12, .inl uf)), (d, .inl (cI, 12, .inl df)), (f, .inl (cI, 12, .inl tf))] s.heap := hP
  have hl : lv_has ls 2 [(0, .ref h), (1, .int (nI j))] := hl
  have hS9 : va_S (fun _ => False) s.heap s.heap [] := va_S.rf
  refine lv_aload_n hx hb dX0_fifthBeats_0 rfl (lv_at hl 0 rfl) ?_
  refine lv_iload_n hx hb dX0_fifthBeats_1 rfl (lv_at hl 1 rfl) ?_
  refine fb_roV (As := [.int (nI j)]) (rest := []) (n := 1) ⟨hx, hb, hml, hown, hts⟩ (fb_c_X0_swings l G cI cL h n o d f nf uf df tf w dy j (by omega)) gX0_fifthBeats_X0_swings rfl (by decide +kernel) (by decide) (fb_PB.bl _ _ _ _) (va_recv hK hP (ci := 0) (q0 := 0) rfl rfl) (fb_PB.to hP hK hX) rfl hl.1 rfl (by decide) dX0_fifthBeats_2 (by decide) ?_
  refine lv_aload_n hx hb dX0_fifthBeats_5 rfl (lv_at hl 0 rfl) ?_
  refine lv_iload_n hx hb dX0_fifthBeats_6 rfl (lv_at hl 1 rfl) ?_
  refine fb_roV (As := [.int (nI j)]) (rest := [.int (fb_sw j)]) (n := 1) ⟨hx, hb, hml, hown, hts⟩ (fb_c_X0_narrowness l G cI cL h n o d f nf uf df tf w dy j (by omega)) gX0_fifthBeats_X0_narrowness rfl (by decide +kernel) (by decide) (fb_PB.bl _ _ _ _) (va_recv hK hP (ci := 0) (q0 := 0) rfl rfl) (fb_PB.to hP hK hX) rfl hl.1 rfl (by decide) dX0_fifthBeats_7 (by decide) ?_
  refine va_mabs hx hb (hml.trans hl.1.symm) hown (hts (.methodLink RX0 59 Lib.Math.abs.name) (by decide +kernel)) (hts (.static Lib.Math.abs.name) (by decide +kernel)) (hts (.initialized "java/lang/Math") (by decide +kernel)) (hts (.code Lib.Math.abs.name Lib.Math.abs.code 1 (some .int)) (by decide +kernel)) (by decide) (by decide) (by decide) (by decide) dX0_fifthBeats_10 ?_
  refine fb_ti (z := fb_ab (fb_na (fb_rg nf) (fb_rg uf) j)) rfl ?_
  refine lv_imul hx hb dX0_fifthBeats_13 ?_
  refine lv_bipush (v := 100) hx hb dX0_fifthBeats_14 (by decide) ?_
  refine lv_imul hx hb dX0_fifthBeats_16 ?_
  refine lv_sipush (v := 577) hx hb dX0_fifthBeats_17 (by decide) ?_
  refine lv_idiv hx hb dX0_fifthBeats_20 (by decide) ?_
  exact fb_iret hx hb hr hlk dX0_fifthBeats_21 (rfl)
set_option maxHeartbeats 4000000 in
set_option maxRecDepth 100000 in
theorem fb_c_X0_majorOff (l : Launch) (G : va_G) (cI cL : ClassId) (h n o d f : Nat) (nf uf df tf : Nat → Int32) (w : Nat) (dy : Int32) (j : Nat) (hj : j < 900) : fb_RO l yX0_majorOff wsX0_majorOff 2 45 [.ref h, .int (nI j)] (fb_PB G cI cL (fb_PW cI h n o d f nf uf df tf (nI w) dy)) (.int (fb_mj (fb_rg nf) (fb_rg uf) j 4)) := by
  refine fb_ro_of (cc := cX0_majorOff) (maxL := 4) (ret := (some .int)) (by decide) rfl (Nat.le_of_ble_eq_true rfl) ?_
  intro p e s m args below meth c hx hb hr hml hlk hts hown hB ls hl
  have hown : s.vm.findClass RX0 = some m.cls := hown
  obtain ⟨hP, hK, hX⟩ := hB
  have hP : va_P G vwCl [(h, .inr (0, [.ref n, .ref o, .ref d, .ref f, .int (nI w), .int dy])), (n, .inl (cI, 12, .inl nf)), (o, .inl (cI, 12, .inl uf)), (d, .inl (cI, 12, .inl df)), (f, .inl (cI, 12, .inl tf))] s.heap := hP
  have hl : lv_has ls 4 [(0, .ref h), (1, .int (nI j))] := hl
  have hS9 : va_S (fun _ => False) s.heap s.heap [] := va_S.rf
  refine lv_bipush (v := 22) hx hb dX0_majorOff_0 (by decide) ?_
  refine lv_istore_n (lv' := [(2, .int 22), (0, .ref h), (1, .int (nI j))]) hx hb dX0_majorOff_2 rfl hl (by decide) rfl (fun ls hl => ?_)
  refine lv_iconst (v := 0) hx hb dX0_majorOff_3 (by decide) ?_
  refine lv_istore_n (lv' := [(3, .int 0), (2, .int 22), (0, .ref h), (1, .int (nI j))]) hx hb dX0_majorOff_4 rfl hl (by decide) rfl (fun ls hl => ?_)
  have lp5 : ∀ (n9 i : Nat), i ≤ 4 → 4 < i + n9 → ∀ ls : Array Slot, lv_has ls 4 [(3, .int (nI i)), (2, .int (fb_mj (fb_rg nf) (fb_rg uf) j i)), (0, .ref h), (1, .int (nI j))] → W p l e ({ frames := 2, cells := 0, slots := 0, locals := 45 }) s m args below meth c s.heap [] 0 0 (MQ below (k2_QcV (.int (fb_mj (fb_rg nf) (fb_rg uf) j 4))) args s 0 0 (fun _ => False)) (F0 m 5 ls []) := by
    intro n9
    induction n9 with
    | zero => intro i h1 h2; exact absurd h2 (by omega)
    | succ n9 ih5 =>
      intro i hi_i hin9 ls hl
      refine lv_iload_n hx hb dX0_majorOff_5 rfl (lv_at hl 0 rfl) ?_
      refine lv_iconst (v := 4) hx hb dX0_majorOff_6 (by decide) ?_
      refine lv_icmp_ge (tgt := 26) hx hb dX0_majorOff_7 (by decide) (fun c7 => ?_) (fun c7 => ?_)
      · skip
        have hxi : i = 4 := fb_lp_ex (by decide) hi_i c7
        subst hxi
        refine lv_iload_n hx hb dX0_majorOff_26 rfl (lv_at hl 1 rfl) ?_
        exact fb_iret hx hb hr hlk dX0_majorOff_27 (rfl)
      · skip
        have hi12 : i < 4 := fb_lp_in (by decide) hi_i c7
        refine lv_iload_n hx hb dX0_majorOff_10 rfl (lv_at hl 1 rfl) ?_
        refine lv_aload_n hx hb dX0_majorOff_11 rfl (lv_at hl 2 rfl) ?_
        refine lv_iload_n hx hb dX0_majorOff_12 rfl (lv_at hl 3 rfl) ?_
        refine lv_iload_n hx hb dX0_majorOff_13 rfl (lv_at hl 0 rfl) ?_
        refine lv_iadd hx hb dX0_majorOff_14 ?_
        refine fb_ti (z := nI (j + i)) (nI_add j i) ?_
        refine fb_roV (As := [.int (nI (j + i))]) (rest := [.int (fb_mj (fb_rg nf) (fb_rg uf) j i)]) (n := 1) ⟨hx, hb, hml, hown, hts⟩ (fb_c_X0_narrowness l G cI cL h n o d f nf uf df tf w dy (j + i) (by omega)) gX0_majorOff_X0_narrowness rfl (by decide +kernel) (by decide) (fb_PB.bl _ _ _ _) (va_recv hK hP (ci := 0) (q0 := 0) rfl rfl) (fb_PB.to hP hK hX) rfl hl.1 rfl (by decide) dX0_majorOff_15 (by decide) ?_
        refine lv_isub hx hb dX0_majorOff_18 ?_
        refine lv_istore_n (lv' := [(2, .int ((fb_mj (fb_rg nf) (fb_rg uf) j i) - (fb_na (fb_rg nf) (fb_rg uf) (j + i)))), (3, .int (nI i)), (0, .ref h), (1, .int (nI j))]) hx hb dX0_majorOff_19 rfl hl (by decide) rfl (fun ls hl => ?_)
        refine lv_iinc (v := nI (i + 1)) (lv' := [(3, .int (nI (i + 1))), (2, .int ((fb_mj (fb_rg nf) (fb_rg uf) j i) - (fb_na (fb_rg nf) (fb_rg uf) (j + i)))), (0, .ref h), (1, .int (nI j))]) hx hb dX0_majorOff_20 hl (k := 1) rfl (show nI i + 1 = nI (i + 1) from nI_1 i) (by decide) rfl (fun ls hl => ?_)
        refine lv_goto (tgt := 5) hx hb dX0_majorOff_23 (by decide) ?_
        exact ih5 (i + 1) (by omega) (by omega) _ (lv_sub hl [0, 1, 2, 3] (rfl))
  exact lp5 (4 + 1) 0 (by omega) (by omega) _ (lv_sub hl [0, 1, 2, 3] (rfl))
set_option maxHeartbeats 4000000 in
set_option maxRecDepth 100000 in
theorem fb_c_X0_majorBeats (l : Launch) (G : va_G) (cI cL : ClassId) (h n o d f : Nat) (nf uf df tf : Nat → Int32) (w : Nat) (dy : Int32) (j : Nat) (hj : j < 900) : fb_RO l yX0_majorBeats wsX0_majorBeats 3 68 [.ref h, .int (nI j)] (fb_PB G cI cL (fb_PW cI h n o d f nf uf df tf (nI w) dy)) (.int (fb_mb (fb_rg nf) (fb_rg uf) j)) := by
  refine fb_ro_of (cc := cX0_majorBeats) (maxL := 2) (ret := (some .int)) (by decide) rfl (Nat.le_of_ble_eq_true rfl) ?_
  intro p e s m args below meth c hx hb hr hml hlk hts hown hB ls hl
  have hown : s.vm.findClass RX0 = some m.cls := hown
  obtain ⟨hP, hK, hX⟩ := hB
  have hP : va_P G vwCl [(h, .inr (0, [.ref n, .ref o, .ref d, .ref f, .int (nI w), .int dy])), (n, .inl (cI, 12, .inl nf)), (o, .inl (cI, 12, .inl uf)), (d, .inl (cI, 12, .inl df)), (f, .inl (cI, 12, .inl tf))] s.heap := hP
  have hl : lv_has ls 2 [(0, .ref h), (1, .int (nI j))] := hl
  have hS9 : va_S (fun _ => False) s.heap s.heap [] := va_S.rf
  refine lv_aload_n hx hb dX0_majorBeats_0 rfl (lv_at hl 0 rfl) ?_
  refine lv_iload_n hx hb dX0_majorBeats_1 rfl (lv_at hl 1 rfl) ?_
  refine fb_roV (As := [.int (nI j)]) (rest := []) (n := 1) ⟨hx, hb, hml, hown, hts⟩ (fb_c_X0_swings l G cI cL h n o d f nf uf df tf w dy j (by omega)) gX0_majorBeats_X0_swings rfl (by decide +kernel) (by decide) (fb_PB.bl _ _ _ _) (va_recv hK hP (ci := 0) (q0 := 0) rfl rfl) (fb_PB.to hP hK hX) rfl hl.1 rfl (by decide) dX0_majorBeats_2 (by decide) ?_
  refine lv_aload_n hx hb dX0_majorBeats_5 rfl (lv_at hl 0 rfl) ?_
  refine lv_iload_n hx hb dX0_majorBeats_6 rfl (lv_at hl 1 rfl) ?_
  refine fb_roV (As := [.int (nI j)]) (rest := [.int (fb_sw j)]) (n := 1) ⟨hx, hb, hml, hown, hts⟩ (fb_c_X0_majorOff l G cI cL h n o d f nf uf df tf w dy j (by omega)) gX0_majorBeats_X0_majorOff rfl (by decide +kernel) (by decide) (fb_PB.bl _ _ _ _) (va_recv hK hP (ci := 0) (q0 := 0) rfl rfl) (fb_PB.to hP hK hX) rfl hl.1 rfl (by decide) dX0_majorBeats_7 (by decide) ?_
  refine va_mabs hx hb (hml.trans hl.1.symm) hown (hts (.methodLink RX0 59 Lib.Math.abs.name) (by decide +kernel)) (hts (.static Lib.Math.abs.name) (by decide +kernel)) (hts (.initialized "java/lang/Math") (by decide +kernel)) (hts (.code Lib.Math.abs.name Lib.Math.abs.code 1 (some .int)) (by decide +kernel)) (by decide) (by decide) (by decide) (by decide) dX0_majorBeats_10 ?_
  refine fb_ti (z := fb_ab (fb_mj (fb_rg nf) (fb_rg uf) j 4)) rfl ?_
  refine lv_imul hx hb dX0_majorBeats_13 ?_
  refine lv_bipush (v := 100) hx hb dX0_majorBeats_14 (by decide) ?_
  refine lv_imul hx hb dX0_majorBeats_16 ?_
  refine lv_sipush (v := 346) hx hb dX0_majorBeats_17 (by decide) ?_
  refine lv_idiv hx hb dX0_majorBeats_20 (by decide) ?_
  exact fb_iret hx hb hr hlk dX0_majorBeats_21 (rfl)
set_option maxHeartbeats 4000000 in
set_option maxRecDepth 100000 in
theorem fb_c_X0_minorWidth (l : Launch) (G : va_G) (cI cL : ClassId) (h n o d f : Nat) (nf uf df tf : Nat → Int32) (w : Nat) (dy : Int32) (j : Nat) (hj : j < 900) : fb_RO l yX0_minorWidth wsX0_minorWidth 2 45 [.ref h, .int (nI j)] (fb_PB G cI cL (fb_PW cI h n o d f nf uf df tf (nI w) dy)) (.int (fb_mi (fb_rg nf) (fb_rg uf) j 3)) := by
  refine fb_ro_of (cc := cX0_minorWidth) (maxL := 4) (ret := (some .int)) (by decide) rfl (Nat.le_of_ble_eq_true rfl) ?_
  intro p e s m args below meth c hx hb hr hml hlk hts hown hB ls hl
  have hown : s.vm.findClass RX0 = some m.cls := hown
  obtain ⟨hP, hK, hX⟩ := hB
  have hP : va_P G vwCl [(h, .inr (0, [.ref n, .ref o, .ref d, .ref f, .int (nI w), .int dy])), (n, .inl (cI, 12, .inl nf)), (o, .inl (cI, 12, .inl uf)), (d, .inl (cI, 12, .inl df)), (f, .inl (cI, 12, .inl tf))] s.heap := hP
  have hl : lv_has ls 4 [(0, .ref h), (1, .int (nI j))] := hl
  have hS9 : va_S (fun _ => False) s.heap s.heap [] := va_S.rf
  refine lv_sipush (v := 294) hx hb dX0_minorWidth_0 (by decide) ?_
  refine lv_istore_n (lv' := [(2, .int 294), (0, .ref h), (1, .int (nI j))]) hx hb dX0_minorWidth_3 rfl hl (by decide) rfl (fun ls hl => ?_)
  refine lv_bipush (v := 9) hx hb dX0_minorWidth_4 (by decide) ?_
  refine lv_istore_n (lv' := [(3, .int 9), (2, .int 294), (0, .ref h), (1, .int (nI j))]) hx hb dX0_minorWidth_6 rfl hl (by decide) rfl (fun ls hl => ?_)
  have lp7 : ∀ (n9 i : Nat), i ≤ 3 → 3 < i + n9 → ∀ ls : Array Slot, lv_has ls 4 [(3, .int (nI (9 + i))), (2, .int (fb_mi (fb_rg nf) (fb_rg uf) j i)), (0, .ref h), (1, .int (nI j))] → W p l e ({ frames := 2, cells := 0, slots := 0, locals := 45 }) s m args below meth c s.heap [] 0 0 (MQ below (k2_QcV (.int (fb_mi (fb_rg nf) (fb_rg uf) j 3))) args s 0 0 (fun _ => False)) (F0 m 7 ls []) := by
    intro n9
    induction n9 with
    | zero => intro i h1 h2; exact absurd h2 (by omega)
    | succ n9 ih7 =>
      intro i hi_i hin9 ls hl
      refine lv_iload_n hx hb dX0_minorWidth_7 rfl (lv_at hl 0 rfl) ?_
      refine lv_bipush (v := 12) hx hb dX0_minorWidth_8 (by decide) ?_
      refine lv_icmp_ge (tgt := 29) hx hb dX0_minorWidth_10 (by decide) (fun c10 => ?_) (fun c10 => ?_)
      · skip
        have hxi : 9 + i = 12 := fb_lp_ex (by decide) (by omega) c10
        obtain rfl : i = 3 := by omega
        refine lv_iload_n hx hb dX0_minorWidth_29 rfl (lv_at hl 1 rfl) ?_
        exact fb_iret hx hb hr hlk dX0_minorWidth_30 (rfl)
      · skip
        have h9 : 9 + i < 12 := fb_lp_in (by decide) (by omega) c10
        refine lv_iload_n hx hb dX0_minorWidth_13 rfl (lv_at hl 1 rfl) ?_
        refine lv_aload_n hx hb dX0_minorWidth_14 rfl (lv_at hl 2 rfl) ?_
        refine lv_iload_n hx hb dX0_minorWidth_15 rfl (lv_at hl 3 rfl) ?_
        refine lv_iload_n hx hb dX0_minorWidth_16 rfl (lv_at hl 0 rfl) ?_
        refine lv_iadd hx hb dX0_minorWidth_17 ?_
        refine fb_ti (z := nI (j + (9 + i))) (nI_add j (9 + i)) ?_
        refine fb_roV (As := [.int (nI (j + (9 + i)))]) (rest := [.int (fb_mi (fb_rg nf) (fb_rg uf) j i)]) (n := 1) ⟨hx, hb, hml, hown, hts⟩ (fb_c_X0_narrowness l G cI cL h n o d f nf uf df tf w dy (j + (9 + i)) (by omega)) gX0_minorWidth_X0_narrowness rfl (by decide +kernel) (by decide) (fb_PB.bl _ _ _ _) (va_recv hK hP (ci := 0) (q0 := 0) rfl rfl) (fb_PB.to hP hK hX) rfl hl.1 rfl (by decide) dX0_minorWidth_18 (by decide) ?_
        refine lv_iadd hx hb dX0_minorWidth_21 ?_
        refine lv_istore_n (lv' := [(2, .int ((fb_mi (fb_rg nf) (fb_rg uf) j i) + (fb_na (fb_rg nf) (fb_rg uf) (j + (9 + i))))), (3, .int (nI (9 + i))), (0, .ref h), (1, .int (nI j))]) hx hb dX0_minorWidth_22 rfl hl (by decide) rfl (fun ls hl => ?_)
        refine lv_iinc (v := nI (9 + (i + 1))) (lv' := [(3, .int (nI (9 + (i + 1)))), (2, .int ((fb_mi (fb_rg nf) (fb_rg uf) j i) + (fb_na (fb_rg nf) (fb_rg uf) (j + (9 + i))))), (0, .ref h), (1, .int (nI j))]) hx hb dX0_minorWidth_23 hl (k := 1) rfl (show nI (9 + i) + 1 = nI (9 + (i + 1)) from nI_1 (9 + i)) (by decide) rfl (fun ls hl => ?_)
        refine lv_goto (tgt := 7) hx hb dX0_minorWidth_26 (by decide) ?_
        exact ih7 (i + 1) (by omega) (by omega) _ (lv_sub hl [0, 1, 2, 3] (rfl))
  exact lp7 (3 + 1) 0 (by omega) (by omega) _ (lv_sub hl [0, 1, 2, 3] (rfl))
set_option maxHeartbeats 4000000 in
set_option maxRecDepth 100000 in
theorem fb_c_X0_height (l : Launch) (G : va_G) (cI cL : ClassId) (h n o d f : Nat) (nf uf df tf : Nat → Int32) (w : Nat) (dy : Int32) (j : Nat) (hj : j < 900) : fb_RO l yX0_height wsX0_height 3 66 [.ref h, .int (nI j)] (fb_PB G cI cL (fb_PW cI h n o d f nf uf df tf (nI w) dy)) (.int (fb_fm (fb_ht (fb_rg nf) (fb_rg uf) j) 1200)) := by
  refine fb_ro_of (cc := cX0_height) (maxL := 4) (ret := (some .int)) (by decide) rfl (Nat.le_of_ble_eq_true rfl) ?_
  intro p e s m args below meth c hx hb hr hml hlk hts hown hB ls hl
  have hown : s.vm.findClass RX0 = some m.cls := hown
  obtain ⟨hP, hK, hX⟩ := hB
  have hP : va_P G vwCl [(h, .inr (0, [.ref n, .ref o, .ref d, .ref f, .int (nI w), .int dy])), (n, .inl (cI, 12, .inl nf)), (o, .inl (cI, 12, .inl uf)), (d, .inl (cI, 12, .inl df)), (f, .inl (cI, 12, .inl tf))] s.heap := hP
  have hl : lv_has ls 4 [(0, .ref h), (1, .int (nI j))] := hl
  have hS9 : va_S (fun _ => False) s.heap s.heap [] := va_S.rf
  refine lv_iconst (v := 0) hx hb dX0_height_0 (by decide) ?_
  refine lv_istore_n (lv' := [(2, .int 0), (0, .ref h), (1, .int (nI j))]) hx hb dX0_height_1 rfl hl (by decide) rfl (fun ls hl => ?_)
  refine lv_iconst (v := 0) hx hb dX0_height_2 (by decide) ?_
  refine lv_istore_n (lv' := [(3, .int 0), (2, .int 0), (0, .ref h), (1, .int (nI j))]) hx hb dX0_height_3 rfl hl (by decide) rfl (fun ls hl => ?_)
  have lp4 : ∀ (n9 i : Nat), i ≤ j → j < i + n9 → ∀ ls : Array Slot, lv_has ls 4 [(3, .int (nI i)), (2, .int (fb_ht (fb_rg nf) (fb_rg uf) i)), (0, .ref h), (1, .int (nI j))] → W p l e ({ frames := 3, cells := 0, slots := 0, locals := 66 }) s m args below meth c s.heap [] 0 0 (MQ below (k2_QcV (.int (fb_fm (fb_ht (fb_rg nf) (fb_rg uf) j) 1200))) args s 0 0 (fun _ => False)) (F0 m 4 ls []) := by
    intro n9
    induction n9 with
    | zero => intro i h1 h2; exact absurd h2 (by omega)
    | succ n9 ih4 =>
      intro i hi_i hin9 ls hl
      refine lv_iload_n hx hb dX0_height_4 rfl (lv_at hl 0 rfl) ?_
      refine lv_iload_n hx hb dX0_height_5 rfl (lv_at hl 3 rfl) ?_
      refine lv_icmp_ge (tgt := 23) hx hb dX0_height_6 (by decide) (fun c6 => ?_) (fun c6 => ?_)
      · skip
        have hxi : i = j := fb_lp_ex (by omega) hi_i c6
        subst hxi
        refine lv_iload_n hx hb dX0_height_23 rfl (lv_at hl 1 rfl) ?_
        refine lv_sipush (v := 1200) hx hb dX0_height_24 (by decide) ?_
        refine fb_roS (As := [.int (fb_ht (fb_rg nf) (fb_rg uf) i), .int 1200]) (rest := []) (n := 2) ⟨hx, hb, hml, hown, hts⟩ (fb_c_J9_floorMod l (fb_ht (fb_rg nf) (fb_rg uf) i) 1200 (by decide)) gX0_height_J9_floorMod_7cf53 rfl (by decide +kernel) (by decide) fb_Bl_T (fun _ _ _ => trivial) rfl hl.1 rfl (by decide) dX0_height_27 (by decide) ?_
        exact fb_iret hx hb hr hlk dX0_height_30 (rfl)
      · skip
        have hi12 : i < j := fb_lp_in (by omega) hi_i c6
        refine lv_iload_n hx hb dX0_height_9 rfl (lv_at hl 1 rfl) ?_
        refine lv_aload_n hx hb dX0_height_10 rfl (lv_at hl 2 rfl) ?_
        refine lv_iload_n hx hb dX0_height_11 rfl (lv_at hl 0 rfl) ?_
        refine fb_roV (As := [.int (nI i)]) (rest := [.int (fb_ht (fb_rg nf) (fb_rg uf) i)]) (n := 1) ⟨hx, hb, hml, hown, hts⟩ (fb_c_X0_fifthWidth l G cI cL h n o d f nf uf df tf w dy i (by omega)) gX0_height_X0_fifthWidth rfl (by decide +kernel) (by decide) (fb_PB.bl _ _ _ _) (va_recv hK hP (ci := 0) (q0 := 0) rfl rfl) (fb_PB.to hP hK hX) rfl hl.1 rfl (by decide) dX0_height_12 (by decide) ?_
        refine lv_iadd hx hb dX0_height_15 ?_
        refine lv_istore_n (lv' := [(2, .int ((fb_ht (fb_rg nf) (fb_rg uf) i) + (702 - fb_na (fb_rg nf) (fb_rg uf) i))), (3, .int (nI i)), (0, .ref h), (1, .int (nI j))]) hx hb dX0_height_16 rfl hl (by decide) rfl (fun ls hl => ?_)
        refine lv_iinc (v := nI (i + 1)) (lv' := [(3, .int (nI (i + 1))), (2, .int ((fb_ht (fb_rg nf) (fb_rg uf) i) + (702 - fb_na (fb_rg nf) (fb_rg uf) i))), (0, .ref h), (1, .int (nI j))]) hx hb dX0_height_17 hl (k := 1) rfl (show nI i + 1 = nI (i + 1) from nI_1 i) (by decide) rfl (fun ls hl => ?_)
        refine lv_goto (tgt := 4) hx hb dX0_height_20 (by decide) ?_
        exact ih4 (i + 1) (by omega) (by omega) _ (lv_sub hl [0, 1, 2, 3] (rfl))
  exact lp4 (j + 1) 0 (by omega) (by omega) _ (lv_sub hl [0, 1, 2, 3] (rfl))
set_option maxHeartbeats 4000000 in
set_option maxRecDepth 100000 in
theorem fb_c_X0_sourness (l : Launch) (G : va_G) (cI cL : ClassId) (h n o d f : Nat) (nf uf df tf : Nat → Int32) (w : Nat) (dy : Int32) (j : Nat) (hj : j < 900) : fb_RO l yX0_sourness wsX0_sourness 3 68 [.ref h, .int (nI j)] (fb_PB G cI cL (fb_PW cI h n o d f nf uf df tf (nI w) dy)) (.int (fb_so (fb_rg nf) (fb_rg uf) j)) := by
  refine fb_ro_of (cc := cX0_sourness) (maxL := 2) (ret := (some .int)) (by decide) rfl (Nat.le_of_ble_eq_true rfl) ?_
  intro p e s m args below meth c hx hb hr hml hlk hts hown hB ls hl
  have hown : s.vm.findClass RX0 = some m.cls := hown
  obtain ⟨hP, hK, hX⟩ := hB
  have hP : va_P G vwCl [(h, .inr (0, [.ref n, .ref o, .ref d, .ref f, .int (nI w), .int dy])), (n, .inl (cI, 12, .inl nf)), (o, .inl (cI, 12, .inl uf)), (d, .inl (cI, 12, .inl df)), (f, .inl (cI, 12, .inl tf))] s.heap := hP
  have hl : lv_has ls 2 [(0, .ref h), (1, .int (nI j))] := hl
  have hS9 : va_S (fun _ => False) s.heap s.heap [] := va_S.rf
  refine lv_aload_n hx hb dX0_sourness_0 rfl (lv_at hl 0 rfl) ?_
  refine lv_iload_n hx hb dX0_sourness_1 rfl (lv_at hl 1 rfl) ?_
  refine fb_roV (As := [.int (nI j)]) (rest := []) (n := 1) ⟨hx, hb, hml, hown, hts⟩ (fb_c_X0_majorOff l G cI cL h n o d f nf uf df tf w dy j (by omega)) gX0_sourness_X0_majorOff rfl (by decide +kernel) (by decide) (fb_PB.bl _ _ _ _) (va_recv hK hP (ci := 0) (q0 := 0) rfl rfl) (fb_PB.to hP hK hX) rfl hl.1 rfl (by decide) dX0_sourness_2 (by decide) ?_
  refine va_mabs hx hb (hml.trans hl.1.symm) hown (hts (.methodLink RX0 59 Lib.Math.abs.name) (by decide +kernel)) (hts (.static Lib.Math.abs.name) (by decide +kernel)) (hts (.initialized "java/lang/Math") (by decide +kernel)) (hts (.code Lib.Math.abs.name Lib.Math.abs.code 1 (some .int)) (by decide +kernel)) (by decide) (by decide) (by decide) (by decide) dX0_sourness_5 ?_
  refine fb_ti (z := fb_ab (fb_mj (fb_rg nf) (fb_rg uf) j 4)) rfl ?_
  refine lv_iconst (v := 2) hx hb dX0_sourness_8 (by decide) ?_
  refine lv_aload_n hx hb dX0_sourness_9 rfl (lv_at hl 0 rfl) ?_
  refine lv_iload_n hx hb dX0_sourness_10 rfl (lv_at hl 1 rfl) ?_
  refine fb_roV (As := [.int (nI j)]) (rest := [.int 2, .int (fb_ab (fb_mj (fb_rg nf) (fb_rg uf) j 4))]) (n := 1) ⟨hx, hb, hml, hown, hts⟩ (fb_c_X0_narrowness l G cI cL h n o d f nf uf df tf w dy j (by omega)) gX0_sourness_X0_narrowness rfl (by decide +kernel) (by decide) (fb_PB.bl _ _ _ _) (va_recv hK hP (ci := 0) (q0 := 0) rfl rfl) (fb_PB.to hP hK hX) rfl hl.1 rfl (by decide) dX0_sourness_11 (by decide) ?_
  refine va_mabs hx hb (hml.trans hl.1.symm) hown (hts (.methodLink RX0 59 Lib.Math.abs.name) (by decide +kernel)) (hts (.static Lib.Math.abs.name) (by decide +kernel)) (hts (.initialized "java/lang/Math") (by decide +kernel)) (hts (.code Lib.Math.abs.name Lib.Math.abs.code 1 (some .int)) (by decide +kernel)) (by decide) (by decide) (by decide) (by decide) dX0_sourness_14 ?_
  refine fb_ti (z := fb_ab (fb_na (fb_rg nf) (fb_rg uf) j)) rfl ?_
  refine lv_imul hx hb dX0_sourness_17 ?_
  refine lv_iadd hx hb dX0_sourness_18 ?_
  exact fb_iret hx hb hr hlk dX0_sourness_19 (rfl)
set_option maxHeartbeats 4000000 in
set_option maxRecDepth 100000 in
theorem fb_c_X0_place (l : Launch) (G : va_G) (cI cL : ClassId) (h n o d f : Nat) (nf uf df tf : Nat → Int32) (w : Nat) (dy : Int32) (j : Nat) (hj : j < 12) : fb_RO l yX0_place wsX0_place 4 89 [.ref h, .int (nI j)] (fb_PB G cI cL (fb_PW cI h n o d f nf uf df tf (nI w) dy)) (.int (fb_pl (fb_rg nf) (fb_rg uf) j 12)) := by
  refine fb_ro_of (cc := cX0_place) (maxL := 6) (ret := (some .int)) (by decide) rfl (Nat.le_of_ble_eq_true rfl) ?_
  intro p e s m args below meth c hx hb hr hml hlk hts hown hB ls hl
  have hown : s.vm.findClass RX0 = some m.cls := hown
  obtain ⟨hP, hK, hX⟩ := hB
  have hP : va_P G vwCl [(h, .inr (0, [.ref n, .ref o, .ref d, .ref f, .int (nI w), .int dy])), (n, .inl (cI, 12, .inl nf)), (o, .inl (cI, 12, .inl uf)), (d, .inl (cI, 12, .inl df)), (f, .inl (cI, 12, .inl tf))] s.heap := hP
  have hl : lv_has ls 6 [(0, .ref h), (1, .int (nI j))] := hl
  have hS9 : va_S (fun _ => False) s.heap s.heap [] := va_S.rf
  refine lv_aload_n hx hb dX0_place_0 rfl (lv_at hl 0 rfl) ?_
  refine lv_iload_n hx hb dX0_place_1 rfl (lv_at hl 1 rfl) ?_
  refine fb_roV (As := [.int (nI j)]) (rest := []) (n := 1) ⟨hx, hb, hml, hown, hts⟩ (fb_c_X0_sourness l G cI cL h n o d f nf uf df tf w dy j (by omega)) gX0_place_X0_sourness rfl (by decide +kernel) (by decide) (fb_PB.bl _ _ _ _) (va_recv hK hP (ci := 0) (q0 := 0) rfl rfl) (fb_PB.to hP hK hX) rfl hl.1 rfl (by decide) dX0_place_2 (by decide) ?_
  refine lv_istore_n (lv' := [(2, .int (fb_so (fb_rg nf) (fb_rg uf) j)), (0, .ref h), (1, .int (nI j))]) hx hb dX0_place_5 rfl hl (by decide) rfl (fun ls hl => ?_)
  refine lv_iconst (v := 1) hx hb dX0_place_6 (by decide) ?_
  refine lv_istore_n (lv' := [(3, .int 1), (2, .int (fb_so (fb_rg nf) (fb_rg uf) j)), (0, .ref h), (1, .int (nI j))]) hx hb dX0_place_7 rfl hl (by decide) rfl (fun ls hl => ?_)
  refine lv_iconst (v := 0) hx hb dX0_place_8 (by decide) ?_
  refine lv_istore (lv' := [(4, .int 0), (3, .int 1), (2, .int (fb_so (fb_rg nf) (fb_rg uf) j)), (0, .ref h), (1, .int (nI j))]) hx hb dX0_place_9 hl (by decide) rfl (fun ls hl => ?_)
  have lp11 : ∀ (n9 i : Nat), i ≤ 12 → 12 < i + n9 → ∀ ls : Array Slot, lv_has ls 6 [(4, .int (nI i)), (3, .int (fb_pl (fb_rg nf) (fb_rg uf) j i)), (2, .int (fb_so (fb_rg nf) (fb_rg uf) j)), (0, .ref h), (1, .int (nI j))] → W p l e ({ frames := 4, cells := 0, slots := 0, locals := 89 }) s m args below meth c s.heap [] 0 0 (MQ below (k2_QcV (.int (fb_pl (fb_rg nf) (fb_rg uf) j 12))) args s 0 0 (fun _ => False)) (F0 m 11 ls []) := by
    intro n9
    induction n9 with
    | zero => intro i h1 h2; exact absurd h2 (by omega)
    | succ n9 ih11 =>
      intro i hi_i hin9 ls hl
      refine lv_iload hx hb dX0_place_11 (lv_at hl 0 rfl) ?_
      refine lv_bipush (v := 12) hx hb dX0_place_13 (by decide) ?_
      refine lv_icmp_ge (tgt := 53) hx hb dX0_place_15 (by decide) (fun c15 => ?_) (fun c15 => ?_)
      · skip
        have hxi : i = 12 := fb_lp_ex (by decide) hi_i c15
        subst hxi
        refine lv_iload_n hx hb dX0_place_53 rfl (lv_at hl 1 rfl) ?_
        exact fb_iret hx hb hr hlk dX0_place_54 (rfl)
      · skip
        have hi12 : i < 12 := fb_lp_in (by decide) hi_i c15
        refine lv_aload_n hx hb dX0_place_18 rfl (lv_at hl 3 rfl) ?_
        refine lv_iload hx hb dX0_place_19 (lv_at hl 0 rfl) ?_
        refine fb_roV (As := [.int (nI i)]) (rest := []) (n := 1) ⟨hx, hb, hml, hown, hts⟩ (fb_c_X0_sourness l G cI cL h n o d f nf uf df tf w dy i (by omega)) gX0_place_X0_sourness rfl (by decide +kernel) (by decide) (fb_PB.bl _ _ _ _) (va_recv hK hP (ci := 0) (q0 := 0) rfl rfl) (fb_PB.to hP hK hX) rfl hl.1 rfl (by decide) dX0_place_21 (by decide) ?_
        refine lv_istore (lv' := [(5, .int (fb_so (fb_rg nf) (fb_rg uf) i)), (4, .int (nI i)), (3, .int (fb_pl (fb_rg nf) (fb_rg uf) j i)), (2, .int (fb_so (fb_rg nf) (fb_rg uf) j)), (0, .ref h), (1, .int (nI j))]) hx hb dX0_place_24 hl (by decide) rfl (fun ls hl => ?_)
        refine lv_iload hx hb dX0_place_26 (lv_at hl 0 rfl) ?_
        refine lv_iload_n hx hb dX0_place_28 rfl (lv_at hl 3 rfl) ?_
        refine lv_icmp_lt (tgt := 44) hx hb dX0_place_29 (by decide) (fun c29 => ?_) (fun c29 => ?_)
        · skip
          refine lv_iinc (v := fb_pl (fb_rg nf) (fb_rg uf) j (i + 1)) (lv' := [(3, .int (fb_pl (fb_rg nf) (fb_rg uf) j (i + 1))), (5, .int (fb_so (fb_rg nf) (fb_rg uf) i)), (4, .int (nI i)), (2, .int (fb_so (fb_rg nf) (fb_rg uf) j)), (0, .ref h), (1, .int (nI j))]) hx hb dX0_place_44 hl (k := 2) rfl ((if_pos (Or.inl c29)).symm) (by decide) rfl (fun ls hl => ?_)
          refine lv_iinc (v := nI (i + 1)) (lv' := [(4, .int (nI (i + 1))), (3, .int (fb_pl (fb_rg nf) (fb_rg uf) j (i + 1))), (5, .int (fb_so (fb_rg nf) (fb_rg uf) i)), (2, .int (fb_so (fb_rg nf) (fb_rg uf) j)), (0, .ref h), (1, .int (nI j))]) hx hb dX0_place_47 hl (k := 2) rfl (show nI i + 1 = nI (i + 1) from nI_1 i) (by decide) rfl (fun ls hl => ?_)
          refine lv_goto (tgt := 11) hx hb dX0_place_50 (by decide) ?_
          exact ih11 (i + 1) (by omega) (by omega) _ (lv_sub hl [0, 1, 3, 4, 5] (rfl))
        · skip
          refine lv_iload hx hb dX0_place_32 (lv_at hl 0 rfl) ?_
          refine lv_iload_n hx hb dX0_place_34 rfl (lv_at hl 3 rfl) ?_
          refine lv_icmp_ne (tgt := 47) hx hb dX0_place_35 (by decide) (fun c35 => ?_) (fun c35 => ?_)
          · skip
            have hl : lv_has ls 6 [(5, .int (fb_so (fb_rg nf) (fb_rg uf) i)), (4, .int (nI i)), (3, .int (fb_pl (fb_rg nf) (fb_rg uf) j (i + 1))), (2, .int (fb_so (fb_rg nf) (fb_rg uf) j)), (0, .ref h), (1, .int (nI j))] := lv_sub hl [0, 1, 2, 3, 4, 5] (by rw [show fb_pl (fb_rg nf) (fb_rg uf) j i = fb_pl (fb_rg nf) (fb_rg uf) j (i + 1) from (if_neg (fun q => q.elim c29 (fun z => c35 z.1))).symm]; rfl)
            refine lv_iinc (v := nI (i + 1)) (lv' := [(4, .int (nI (i + 1))), (5, .int (fb_so (fb_rg nf) (fb_rg uf) i)), (3, .int (fb_pl (fb_rg nf) (fb_rg uf) j (i + 1))), (2, .int (fb_so (fb_rg nf) (fb_rg uf) j)), (0, .ref h), (1, .int (nI j))]) hx hb dX0_place_47 hl (k := 1) rfl (show nI i + 1 = nI (i + 1) from nI_1 i) (by decide) rfl (fun ls hl => ?_)
            refine lv_goto (tgt := 11) hx hb dX0_place_50 (by decide) ?_
            exact ih11 (i + 1) (by omega) (by omega) _ (lv_sub hl [0, 2, 3, 4, 5] (rfl))
          · skip
            refine lv_iload hx hb dX0_place_38 (lv_at hl 1 rfl) ?_
            refine lv_iload_n hx hb dX0_place_40 rfl (lv_at hl 5 rfl) ?_
            refine lv_icmp_ge (tgt := 47) hx hb dX0_place_41 (by decide) (fun c41 => ?_) (fun c41 => ?_)
            · skip
              have h41 : ¬ i < j := Nat.not_lt.mpr ((nI_leI (by omega) (by omega)).mp c41)
              have hl : lv_has ls 6 [(5, .int (fb_so (fb_rg nf) (fb_rg uf) i)), (4, .int (nI i)), (3, .int (fb_pl (fb_rg nf) (fb_rg uf) j (i + 1))), (2, .int (fb_so (fb_rg nf) (fb_rg uf) j)), (0, .ref h), (1, .int (nI j))] := lv_sub hl [0, 1, 2, 3, 4, 5] (by rw [show fb_pl (fb_rg nf) (fb_rg uf) j i = fb_pl (fb_rg nf) (fb_rg uf) j (i + 1) from (if_neg (fun q => q.elim c29 (fun z => h41 z.2))).symm]; rfl)
              refine lv_iinc (v := nI (i + 1)) (lv' := [(4, .int (nI (i + 1))), (5, .int (fb_so (fb_rg nf) (fb_rg uf) i)), (3, .int (fb_pl (fb_rg nf) (fb_rg uf) j (i + 1))), (2, .int (fb_so (fb_rg nf) (fb_rg uf) j)), (0, .ref h), (1, .int (nI j))]) hx hb dX0_place_47 hl (k := 1) rfl (show nI i + 1 = nI (i + 1) from nI_1 i) (by decide) rfl (fun ls hl => ?_)
              refine lv_goto (tgt := 11) hx hb dX0_place_50 (by decide) ?_
              exact ih11 (i + 1) (by omega) (by omega) _ (lv_sub hl [0, 2, 3, 4, 5] (rfl))
            · skip
              have h41 : i < j := Nat.lt_of_not_le (fun z => c41 (nI_le z (by omega)))
              refine lv_iinc (v := fb_pl (fb_rg nf) (fb_rg uf) j (i + 1)) (lv' := [(3, .int (fb_pl (fb_rg nf) (fb_rg uf) j (i + 1))), (5, .int (fb_so (fb_rg nf) (fb_rg uf) i)), (4, .int (nI i)), (2, .int (fb_so (fb_rg nf) (fb_rg uf) j)), (0, .ref h), (1, .int (nI j))]) hx hb dX0_place_44 hl (k := 2) rfl ((if_pos (Or.inr ⟨c35, h41⟩)).symm) (by decide) rfl (fun ls hl => ?_)
              refine lv_iinc (v := nI (i + 1)) (lv' := [(4, .int (nI (i + 1))), (3, .int (fb_pl (fb_rg nf) (fb_rg uf) j (i + 1))), (5, .int (fb_so (fb_rg nf) (fb_rg uf) i)), (2, .int (fb_so (fb_rg nf) (fb_rg uf) j)), (0, .ref h), (1, .int (nI j))]) hx hb dX0_place_47 hl (k := 2) rfl (show nI i + 1 = nI (i + 1) from nI_1 i) (by decide) rfl (fun ls hl => ?_)
              refine lv_goto (tgt := 11) hx hb dX0_place_50 (by decide) ?_
              exact ih11 (i + 1) (by omega) (by omega) _ (lv_sub hl [0, 1, 3, 4, 5] (rfl))
  exact lp11 (12 + 1) 0 (by omega) (by omega) _ (lv_sub hl [0, 1, 2, 3, 4] (rfl))
set_option maxHeartbeats 4000000 in
set_option maxRecDepth 100000 in
theorem fb_c_X0_cost (l : Launch) (G : va_G) (cI cL : ClassId) (h n o d f : Nat) (nf uf df tf : Nat → Int32) (w : Nat) (dy : Int32) : fb_RO l yX0_cost wsX0_cost 4 89 [.ref h] (fb_PB G cI cL (fb_PW cI h n o d f nf uf df tf (nI w) dy)) (.int (fb_co (fb_rg nf) (fb_rg uf) (fb_rg tf) 12)) := by
  refine fb_ro_of (cc := cX0_cost) (maxL := 3) (ret := (some .int)) (by decide) rfl (Nat.le_of_ble_eq_true rfl) ?_
  intro p e s m args below meth c hx hb hr hml hlk hts hown hB ls hl
  have hown : s.vm.findClass RX0 = some m.cls := hown
  obtain ⟨hP, hK, hX⟩ := hB
  have hP : va_P G vwCl [(h, .inr (0, [.ref n, .ref o, .ref d, .ref f, .int (nI w), .int dy])), (n, .inl (cI, 12, .inl nf)), (o, .inl (cI, 12, .inl uf)), (d, .inl (cI, 12, .inl df)), (f, .inl (cI, 12, .inl tf))] s.heap := hP
  have hl : lv_has ls 3 [(0, .ref h)] := hl
  have hin0 : ∀ w ∈ u_ws RX0 TX0 6, w ∈ wsX0_cost := by decide +kernel
  have hS9 : va_S (fun _ => False) s.heap s.heap [] := va_S.rf
  refine lv_iconst (v := 0) hx hb dX0_cost_0 (by decide) ?_
  refine lv_istore_n (lv' := [(1, .int 0), (0, .ref h)]) hx hb dX0_cost_1 rfl hl (by decide) rfl (fun ls hl => ?_)
  refine lv_iconst (v := 0) hx hb dX0_cost_2 (by decide) ?_
  refine lv_istore_n (lv' := [(2, .int 0), (1, .int 0), (0, .ref h)]) hx hb dX0_cost_3 rfl hl (by decide) rfl (fun ls hl => ?_)
  have lp4 : ∀ (n9 i : Nat), i ≤ 12 → 12 < i + n9 → ∀ ls : Array Slot, lv_has ls 3 [(2, .int (nI i)), (1, .int (fb_co (fb_rg nf) (fb_rg uf) (fb_rg tf) i)), (0, .ref h)] → W p l e ({ frames := 4, cells := 0, slots := 0, locals := 89 }) s m args below meth c s.heap [] 0 0 (MQ below (k2_QcV (.int (fb_co (fb_rg nf) (fb_rg uf) (fb_rg tf) 12))) args s 0 0 (fun _ => False)) (F0 m 4 ls []) := by
    intro n9
    induction n9 with
    | zero => intro i h1 h2; exact absurd h2 (by omega)
    | succ n9 ih4 =>
      intro i hi_i hin9 ls hl
      refine lv_iload_n hx hb dX0_cost_4 rfl (lv_at hl 0 rfl) ?_
      refine lv_bipush (v := 12) hx hb dX0_cost_5 (by decide) ?_
      refine lv_icmp_ge (tgt := 31) hx hb dX0_cost_7 (by decide) (fun c7 => ?_) (fun c7 => ?_)
      · skip
        have hxi : i = 12 := fb_lp_ex (by decide) hi_i c7
        subst hxi
        refine lv_iload_n hx hb dX0_cost_31 rfl (lv_at hl 1 rfl) ?_
        exact fb_iret hx hb hr hlk dX0_cost_32 (rfl)
      · skip
        have hi12 : i < 12 := fb_lp_in (by decide) hi_i c7
        refine lv_iload_n hx hb dX0_cost_10 rfl (lv_at hl 1 rfl) ?_
        refine lv_aload_n hx hb dX0_cost_11 rfl (lv_at hl 2 rfl) ?_
        refine lv_iload_n hx hb dX0_cost_12 rfl (lv_at hl 0 rfl) ?_
        refine fb_roV (As := [.int (nI i)]) (rest := [.int (fb_co (fb_rg nf) (fb_rg uf) (fb_rg tf) i)]) (n := 1) ⟨hx, hb, hml, hown, hts⟩ (fb_c_X0_sourness l G cI cL h n o d f nf uf df tf w dy i (by omega)) gX0_cost_X0_sourness rfl (by decide +kernel) (by decide) (fb_PB.bl _ _ _ _) (va_recv hK hP (ci := 0) (q0 := 0) rfl rfl) (fb_PB.to hP hK hX) rfl hl.1 rfl (by decide) dX0_cost_13 (by decide) ?_
        refine lv_aload_n hx hb dX0_cost_16 rfl (lv_at hl 2 rfl) ?_
        refine va_get (D := G) (ci := 0) (v := .ref f) (C := RX0) (T := TX0) (N := 6) hx hb hts (hin0) hown hK hP 0 rfl rfl 3 (by decide) (hts (.fieldLink RX0 21 "FifthBeats$Piano" "often" "[I") (by decide +kernel)) (fun _ h9 => h9) rfl dX0_cost_17 ?_
        refine lv_iload_n hx hb dX0_cost_20 rfl (lv_at hl 0 rfl) ?_
        refine va_iald hx hb hK hP 4 0 rfl rfl (vp_in_nI hi12 (by decide)) dX0_cost_21 ?_
        refine fb_ti (z := fb_rg tf i) (by rw [fb_cl (by omega), fb_rg_lt hi12]) ?_
        refine lv_imul hx hb dX0_cost_22 ?_
        refine lv_iadd hx hb dX0_cost_23 ?_
        refine lv_istore_n (lv' := [(1, .int ((fb_co (fb_rg nf) (fb_rg uf) (fb_rg tf) i) + ((fb_so (fb_rg nf) (fb_rg uf) i) * (fb_rg tf i)))), (2, .int (nI i)), (0, .ref h)]) hx hb dX0_cost_24 rfl hl (by decide) rfl (fun ls hl => ?_)
        refine lv_iinc (v := nI (i + 1)) (lv' := [(2, .int (nI (i + 1))), (1, .int ((fb_co (fb_rg nf) (fb_rg uf) (fb_rg tf) i) + ((fb_so (fb_rg nf) (fb_rg uf) i) * (fb_rg tf i)))), (0, .ref h)]) hx hb dX0_cost_25 hl (k := 1) rfl (show nI i + 1 = nI (i + 1) from nI_1 i) (by decide) rfl (fun ls hl => ?_)
        refine lv_goto (tgt := 4) hx hb dX0_cost_28 (by decide) ?_
        exact ih4 (i + 1) (by omega) (by omega) _ (lv_sub hl [0, 1, 2] (rfl))
  exact lp4 (12 + 1) 0 (by omega) (by omega) _ (lv_sub hl [0, 1, 2] (rfl))
set_option maxHeartbeats 4000000 in
set_option maxRecDepth 100000 in
theorem fb_c_X0_mostMajorOff (l : Launch) (G : va_G) (cI cL : ClassId) (h n o d f : Nat) (nf uf df tf : Nat → Int32) (w : Nat) (dy : Int32) : fb_RO l yX0_mostMajorOff wsX0_mostMajorOff 3 68 [.ref h] (fb_PB G cI cL (fb_PW cI h n o d f nf uf df tf (nI w) dy)) (.int (fb_mm (fb_rg nf) (fb_rg uf) 12)) := by
  refine fb_ro_of (cc := cX0_mostMajorOff) (maxL := 3) (ret := (some .int)) (by decide) rfl (Nat.le_of_ble_eq_true rfl) ?_
  intro p e s m args below meth c hx hb hr hml hlk hts hown hB ls hl
  have hown : s.vm.findClass RX0 = some m.cls := hown
  obtain ⟨hP, hK, hX⟩ := hB
  have hP : va_P G vwCl [(h, .inr (0, [.ref n, .ref o, .ref d, .ref f, .int (nI w), .int dy])), (n, .inl (cI, 12, .inl nf)), (o, .inl (cI, 12, .inl uf)), (d, .inl (cI, 12, .inl df)), (f, .inl (cI, 12, .inl tf))] s.heap := hP
  have hl : lv_has ls 3 [(0, .ref h)] := hl
  have hS9 : va_S (fun _ => False) s.heap s.heap [] := va_S.rf
  refine lv_iconst (v := 0) hx hb dX0_mostMajorOff_0 (by decide) ?_
  refine lv_istore_n (lv' := [(1, .int 0), (0, .ref h)]) hx hb dX0_mostMajorOff_1 rfl hl (by decide) rfl (fun ls hl => ?_)
  refine lv_iconst (v := 0) hx hb dX0_mostMajorOff_2 (by decide) ?_
  refine lv_istore_n (lv' := [(2, .int 0), (1, .int 0), (0, .ref h)]) hx hb dX0_mostMajorOff_3 rfl hl (by decide) rfl (fun ls hl => ?_)
  have lp4 : ∀ (n9 i : Nat), i ≤ 12 → 12 < i + n9 → ∀ ls : Array Slot, lv_has ls 3 [(2, .int (nI i)), (1, .int (fb_mm (fb_rg nf) (fb_rg uf) i)), (0, .ref h)] → W p l e ({ frames := 3, cells := 0, slots := 0, locals := 68 }) s m args below meth c s.heap [] 0 0 (MQ below (k2_QcV (.int (fb_mm (fb_rg nf) (fb_rg uf) 12))) args s 0 0 (fun _ => False)) (F0 m 4 ls []) := by
    intro n9
    induction n9 with
    | zero => intro i h1 h2; exact absurd h2 (by omega)
    | succ n9 ih4 =>
      intro i hi_i hin9 ls hl
      refine lv_iload_n hx hb dX0_mostMajorOff_4 rfl (lv_at hl 0 rfl) ?_
      refine lv_bipush (v := 12) hx hb dX0_mostMajorOff_5 (by decide) ?_
      refine lv_icmp_ge (tgt := 29) hx hb dX0_mostMajorOff_7 (by decide) (fun c7 => ?_) (fun c7 => ?_)
      · skip
        have hxi : i = 12 := fb_lp_ex (by decide) hi_i c7
        subst hxi
        refine lv_iload_n hx hb dX0_mostMajorOff_29 rfl (lv_at hl 1 rfl) ?_
        exact fb_iret hx hb hr hlk dX0_mostMajorOff_30 (rfl)
      · skip
        have hi12 : i < 12 := fb_lp_in (by decide) hi_i c7
        refine lv_iload_n hx hb dX0_mostMajorOff_10 rfl (lv_at hl 1 rfl) ?_
        refine lv_aload_n hx hb dX0_mostMajorOff_11 rfl (lv_at hl 2 rfl) ?_
        refine lv_iload_n hx hb dX0_mostMajorOff_12 rfl (lv_at hl 0 rfl) ?_
        refine fb_roV (As := [.int (nI i)]) (rest := [.int (fb_mm (fb_rg nf) (fb_rg uf) i)]) (n := 1) ⟨hx, hb, hml, hown, hts⟩ (fb_c_X0_majorOff l G cI cL h n o d f nf uf df tf w dy i (by omega)) gX0_mostMajorOff_X0_majorOff rfl (by decide +kernel) (by decide) (fb_PB.bl _ _ _ _) (va_recv hK hP (ci := 0) (q0 := 0) rfl rfl) (fb_PB.to hP hK hX) rfl hl.1 rfl (by decide) dX0_mostMajorOff_13 (by decide) ?_
        refine va_mabs hx hb (hml.trans hl.1.symm) hown (hts (.methodLink RX0 59 Lib.Math.abs.name) (by decide +kernel)) (hts (.static Lib.Math.abs.name) (by decide +kernel)) (hts (.initialized "java/lang/Math") (by decide +kernel)) (hts (.code Lib.Math.abs.name Lib.Math.abs.code 1 (some .int)) (by decide +kernel)) (by decide) (by decide) (by decide) (by decide) dX0_mostMajorOff_16 ?_
        refine fb_ti (z := fb_ab (fb_mj (fb_rg nf) (fb_rg uf) i 4)) rfl ?_
        refine va_mmax hx hb (hml.trans hl.1.symm) hown (hts (.methodLink RX0 50 Lib.Math.max.name) (by decide +kernel)) (hts (.static Lib.Math.max.name) (by decide +kernel)) (hts (.initialized "java/lang/Math") (by decide +kernel)) (hts (.code Lib.Math.max.name Lib.Math.max.code 2 (some .int)) (by decide +kernel)) (by decide) (by decide) (by decide) (by decide) dX0_mostMajorOff_19 ?_
        refine fb_ti (z := fb_mx (fb_mm (fb_rg nf) (fb_rg uf) i) (fb_ab (fb_mj (fb_rg nf) (fb_rg uf) i 4))) rfl ?_
        refine lv_istore_n (lv' := [(1, .int (fb_mx (fb_mm (fb_rg nf) (fb_rg uf) i) (fb_ab (fb_mj (fb_rg nf) (fb_rg uf) i 4)))), (2, .int (nI i)), (0, .ref h)]) hx hb dX0_mostMajorOff_22 rfl hl (by decide) rfl (fun ls hl => ?_)
        refine lv_iinc (v := nI (i + 1)) (lv' := [(2, .int (nI (i + 1))), (1, .int (fb_mx (fb_mm (fb_rg nf) (fb_rg uf) i) (fb_ab (fb_mj (fb_rg nf) (fb_rg uf) i 4)))), (0, .ref h)]) hx hb dX0_mostMajorOff_23 hl (k := 1) rfl (show nI i + 1 = nI (i + 1) from nI_1 i) (by decide) rfl (fun ls hl => ?_)
        refine lv_goto (tgt := 4) hx hb dX0_mostMajorOff_26 (by decide) ?_
        exact ih4 (i + 1) (by omega) (by omega) _ (lv_sub hl [0, 1, 2] (rfl))
  exact lp4 (12 + 1) 0 (by omega) (by omega) _ (lv_sub hl [0, 1, 2] (rfl))
set_option maxHeartbeats 4000000 in
set_option maxRecDepth 100000 in
theorem fb_c_X0_pureFifths (l : Launch) (G : va_G) (cI cL : ClassId) (h n o d f : Nat) (nf uf df tf : Nat → Int32) (w : Nat) (dy : Int32) : fb_RO l yX0_pureFifths wsX0_pureFifths 2 45 [.ref h] (fb_PB G cI cL (fb_PW cI h n o d f nf uf df tf (nI w) dy)) (.int (fb_pu (fb_rg nf) (fb_rg uf) 12)) := by
  refine fb_ro_of (cc := cX0_pureFifths) (maxL := 3) (ret := (some .int)) (by decide) rfl (Nat.le_of_ble_eq_true rfl) ?_
  intro p e s m args below meth c hx hb hr hml hlk hts hown hB ls hl
  have hown : s.vm.findClass RX0 = some m.cls := hown
  obtain ⟨hP, hK, hX⟩ := hB
  have hP : va_P G vwCl [(h, .inr (0, [.ref n, .ref o, .ref d, .ref f, .int (nI w), .int dy])), (n, .inl (cI, 12, .inl nf)), (o, .inl (cI, 12, .inl uf)), (d, .inl (cI, 12, .inl df)), (f, .inl (cI, 12, .inl tf))] s.heap := hP
  have hl : lv_has ls 3 [(0, .ref h)] := hl
  have hS9 : va_S (fun _ => False) s.heap s.heap [] := va_S.rf
  refine lv_iconst (v := 0) hx hb dX0_pureFifths_0 (by decide) ?_
  refine lv_istore_n (lv' := [(1, .int 0), (0, .ref h)]) hx hb dX0_pureFifths_1 rfl hl (by decide) rfl (fun ls hl => ?_)
  refine lv_iconst (v := 0) hx hb dX0_pureFifths_2 (by decide) ?_
  refine lv_istore_n (lv' := [(2, .int 0), (1, .int 0), (0, .ref h)]) hx hb dX0_pureFifths_3 rfl hl (by decide) rfl (fun ls hl => ?_)
  have lp4 : ∀ (n9 i : Nat), i ≤ 12 → 12 < i + n9 → ∀ ls : Array Slot, lv_has ls 3 [(2, .int (nI i)), (1, .int (fb_pu (fb_rg nf) (fb_rg uf) i)), (0, .ref h)] → W p l e ({ frames := 2, cells := 0, slots := 0, locals := 45 }) s m args below meth c s.heap [] 0 0 (MQ below (k2_QcV (.int (fb_pu (fb_rg nf) (fb_rg uf) 12))) args s 0 0 (fun _ => False)) (F0 m 4 ls []) := by
    intro n9
    induction n9 with
    | zero => intro i h1 h2; exact absurd h2 (by omega)
    | succ n9 ih4 =>
      intro i hi_i hin9 ls hl
      refine lv_iload_n hx hb dX0_pureFifths_4 rfl (lv_at hl 0 rfl) ?_
      refine lv_bipush (v := 12) hx hb dX0_pureFifths_5 (by decide) ?_
      refine lv_icmp_ge (tgt := 27) hx hb dX0_pureFifths_7 (by decide) (fun c7 => ?_) (fun c7 => ?_)
      · skip
        have hxi : i = 12 := fb_lp_ex (by decide) hi_i c7
        subst hxi
        refine lv_iload_n hx hb dX0_pureFifths_27 rfl (lv_at hl 1 rfl) ?_
        exact fb_iret hx hb hr hlk dX0_pureFifths_28 (rfl)
      · skip
        have hi12 : i < 12 := fb_lp_in (by decide) hi_i c7
        refine lv_aload_n hx hb dX0_pureFifths_10 rfl (lv_at hl 2 rfl) ?_
        refine lv_iload_n hx hb dX0_pureFifths_11 rfl (lv_at hl 0 rfl) ?_
        refine fb_roV (As := [.int (nI i)]) (rest := []) (n := 1) ⟨hx, hb, hml, hown, hts⟩ (fb_c_X0_narrowness l G cI cL h n o d f nf uf df tf w dy i (by omega)) gX0_pureFifths_X0_narrowness rfl (by decide +kernel) (by decide) (fb_PB.bl _ _ _ _) (va_recv hK hP (ci := 0) (q0 := 0) rfl rfl) (fb_PB.to hP hK hX) rfl hl.1 rfl (by decide) dX0_pureFifths_12 (by decide) ?_
        refine lv_if_ne (tgt := 21) hx hb dX0_pureFifths_15 (by decide) (fun c15 => ?_) (fun c15 => ?_)
        · skip
          have hl : lv_has ls 3 [(2, .int (nI i)), (1, .int (fb_pu (fb_rg nf) (fb_rg uf) (i + 1))), (0, .ref h)] := lv_sub hl [0, 1, 2] (by rw [show fb_pu (fb_rg nf) (fb_rg uf) i = fb_pu (fb_rg nf) (fb_rg uf) (i + 1) from (if_neg c15).symm]; rfl)
          refine lv_iinc (v := nI (i + 1)) (lv' := [(2, .int (nI (i + 1))), (1, .int (fb_pu (fb_rg nf) (fb_rg uf) (i + 1))), (0, .ref h)]) hx hb dX0_pureFifths_21 hl (k := 0) rfl (show nI i + 1 = nI (i + 1) from nI_1 i) (by decide) rfl (fun ls hl => ?_)
          refine lv_goto (tgt := 4) hx hb dX0_pureFifths_24 (by decide) ?_
          exact ih4 (i + 1) (by omega) (by omega) _ (lv_sub hl [0, 1, 2] (rfl))
        · skip
          refine lv_iinc (v := fb_pu (fb_rg nf) (fb_rg uf) (i + 1)) (lv' := [(1, .int (fb_pu (fb_rg nf) (fb_rg uf) (i + 1))), (2, .int (nI i)), (0, .ref h)]) hx hb dX0_pureFifths_18 hl (k := 1) rfl ((if_pos c15).symm) (by decide) rfl (fun ls hl => ?_)
          refine lv_iinc (v := nI (i + 1)) (lv' := [(2, .int (nI (i + 1))), (1, .int (fb_pu (fb_rg nf) (fb_rg uf) (i + 1))), (0, .ref h)]) hx hb dX0_pureFifths_21 hl (k := 1) rfl (show nI i + 1 = nI (i + 1) from nI_1 i) (by decide) rfl (fun ls hl => ?_)
          refine lv_goto (tgt := 4) hx hb dX0_pureFifths_24 (by decide) ?_
          exact ih4 (i + 1) (by omega) (by omega) _ (lv_sub hl [0, 1, 2] (rfl))
  exact lp4 (12 + 1) 0 (by omega) (by omega) _ (lv_sub hl [0, 1, 2] (rfl))
set_option maxHeartbeats 4000000 in
set_option maxRecDepth 100000 in
theorem fb_c_X0_mostOff (l : Launch) (G : va_G) (cI cL : ClassId) (h n o d f : Nat) (nf uf df tf : Nat → Int32) (w : Nat) (dy : Int32) : fb_RO l yX0_mostOff wsX0_mostOff 1 21 [.ref h] (fb_PB G cI cL (fb_PW cI h n o d f nf uf df tf (nI w) dy)) (.int (fb_mo (fb_rg uf) 12)) := by
  refine fb_ro_of (cc := cX0_mostOff) (maxL := 3) (ret := (some .int)) (by decide) rfl (Nat.le_of_ble_eq_true rfl) ?_
  intro p e s m args below meth c hx hb hr hml hlk hts hown hB ls hl
  have hown : s.vm.findClass RX0 = some m.cls := hown
  obtain ⟨hP, hK, hX⟩ := hB
  have hP : va_P G vwCl [(h, .inr (0, [.ref n, .ref o, .ref d, .ref f, .int (nI w), .int dy])), (n, .inl (cI, 12, .inl nf)), (o, .inl (cI, 12, .inl uf)), (d, .inl (cI, 12, .inl df)), (f, .inl (cI, 12, .inl tf))] s.heap := hP
  have hl : lv_has ls 3 [(0, .ref h)] := hl
  have hin0 : ∀ w ∈ u_ws RX0 TX0 6, w ∈ wsX0_mostOff := by decide +kernel
  have hS9 : va_S (fun _ => False) s.heap s.heap [] := va_S.rf
  refine lv_iconst (v := 0) hx hb dX0_mostOff_0 (by decide) ?_
  refine lv_istore_n (lv' := [(1, .int 0), (0, .ref h)]) hx hb dX0_mostOff_1 rfl hl (by decide) rfl (fun ls hl => ?_)
  refine lv_iconst (v := 0) hx hb dX0_mostOff_2 (by decide) ?_
  refine lv_istore_n (lv' := [(2, .int 0), (1, .int 0), (0, .ref h)]) hx hb dX0_mostOff_3 rfl hl (by decide) rfl (fun ls hl => ?_)
  have lp4 : ∀ (n9 i : Nat), i ≤ 12 → 12 < i + n9 → ∀ ls : Array Slot, lv_has ls 3 [(2, .int (nI i)), (1, .int (fb_mo (fb_rg uf) i)), (0, .ref h)] → W p l e ({ frames := 1, cells := 0, slots := 0, locals := 21 }) s m args below meth c s.heap [] 0 0 (MQ below (k2_QcV (.int (fb_mo (fb_rg uf) 12))) args s 0 0 (fun _ => False)) (F0 m 4 ls []) := by
    intro n9
    induction n9 with
    | zero => intro i h1 h2; exact absurd h2 (by omega)
    | succ n9 ih4 =>
      intro i hi_i hin9 ls hl
      refine lv_iload_n hx hb dX0_mostOff_4 rfl (lv_at hl 0 rfl) ?_
      refine lv_bipush (v := 12) hx hb dX0_mostOff_5 (by decide) ?_
      refine lv_icmp_ge (tgt := 30) hx hb dX0_mostOff_7 (by decide) (fun c7 => ?_) (fun c7 => ?_)
      · skip
        have hxi : i = 12 := fb_lp_ex (by decide) hi_i c7
        subst hxi
        refine lv_iload_n hx hb dX0_mostOff_30 rfl (lv_at hl 1 rfl) ?_
        exact fb_iret hx hb hr hlk dX0_mostOff_31 (rfl)
      · skip
        have hi12 : i < 12 := fb_lp_in (by decide) hi_i c7
        refine lv_iload_n hx hb dX0_mostOff_10 rfl (lv_at hl 1 rfl) ?_
        refine lv_aload_n hx hb dX0_mostOff_11 rfl (lv_at hl 2 rfl) ?_
        refine va_get (D := G) (ci := 0) (v := .ref o) (C := RX0) (T := TX0) (N := 6) hx hb hts (hin0) hown hK hP 0 rfl rfl 1 (by decide) (hts (.fieldLink RX0 15 "FifthBeats$Piano" "off" "[I") (by decide +kernel)) (fun _ h9 => h9) rfl dX0_mostOff_12 ?_
        refine lv_iload_n hx hb dX0_mostOff_15 rfl (lv_at hl 0 rfl) ?_
        refine va_iald hx hb hK hP 2 0 rfl rfl (vp_in_nI hi12 (by decide)) dX0_mostOff_16 ?_
        refine fb_ti (z := fb_rg uf i) (by rw [fb_cl (by omega), fb_rg_lt hi12]) ?_
        refine va_mabs hx hb (hml.trans hl.1.symm) hown (hts (.methodLink RX0 59 Lib.Math.abs.name) (by decide +kernel)) (hts (.static Lib.Math.abs.name) (by decide +kernel)) (hts (.initialized "java/lang/Math") (by decide +kernel)) (hts (.code Lib.Math.abs.name Lib.Math.abs.code 1 (some .int)) (by decide +kernel)) (by decide) (by decide) (by decide) (by decide) dX0_mostOff_17 ?_
        refine fb_ti (z := fb_ab (fb_rg uf i)) rfl ?_
        refine va_mmax hx hb (hml.trans hl.1.symm) hown (hts (.methodLink RX0 50 Lib.Math.max.name) (by decide +kernel)) (hts (.static Lib.Math.max.name) (by decide +kernel)) (hts (.initialized "java/lang/Math") (by decide +kernel)) (hts (.code Lib.Math.max.name Lib.Math.max.code 2 (some .int)) (by decide +kernel)) (by decide) (by decide) (by decide) (by decide) dX0_mostOff_20 ?_
        refine fb_ti (z := fb_mx (fb_mo (fb_rg uf) i) (fb_ab (fb_rg uf i))) rfl ?_
        refine lv_istore_n (lv' := [(1, .int (fb_mx (fb_mo (fb_rg uf) i) (fb_ab (fb_rg uf i)))), (2, .int (nI i)), (0, .ref h)]) hx hb dX0_mostOff_23 rfl hl (by decide) rfl (fun ls hl => ?_)
        refine lv_iinc (v := nI (i + 1)) (lv' := [(2, .int (nI (i + 1))), (1, .int (fb_mx (fb_mo (fb_rg uf) i) (fb_ab (fb_rg uf i)))), (0, .ref h)]) hx hb dX0_mostOff_24 hl (k := 1) rfl (show nI i + 1 = nI (i + 1) from nI_1 i) (by decide) rfl (fun ls hl => ?_)
        refine lv_goto (tgt := 4) hx hb dX0_mostOff_27 (by decide) ?_
        exact ih4 (i + 1) (by omega) (by omega) _ (lv_sub hl [0, 1, 2] (rfl))
  exact lp4 (12 + 1) 0 (by omega) (by omega) _ (lv_sub hl [0, 1, 2] (rfl))
set_option maxHeartbeats 4000000 in
set_option maxRecDepth 100000 in
theorem fb_c_X0_allOff (l : Launch) (G : va_G) (cI cL : ClassId) (h n o d f : Nat) (nf uf df tf : Nat → Int32) (w : Nat) (dy : Int32) : fb_RO l yX0_allOff wsX0_allOff 1 21 [.ref h] (fb_PB G cI cL (fb_PW cI h n o d f nf uf df tf (nI w) dy)) (.int (fb_ao (fb_rg uf) 12)) := by
  refine fb_ro_of (cc := cX0_allOff) (maxL := 3) (ret := (some .int)) (by decide) rfl (Nat.le_of_ble_eq_true rfl) ?_
  intro p e s m args below meth c hx hb hr hml hlk hts hown hB ls hl
  have hown : s.vm.findClass RX0 = some m.cls := hown
  obtain ⟨hP, hK, hX⟩ := hB
  have hP : va_P G vwCl [(h, .inr (0, [.ref n, .ref o, .ref d, .ref f, .int (nI w), .int dy])), (n, .inl (cI, 12, .inl nf)), (o, .inl (cI, 12, .inl uf)), (d, .inl (cI, 12, .inl df)), (f, .inl (cI, 12, .inl tf))] s.heap := hP
  have hl : lv_has ls 3 [(0, .ref h)] := hl
  have hin0 : ∀ w ∈ u_ws RX0 TX0 6, w ∈ wsX0_allOff := by decide +kernel
  have hS9 : va_S (fun _ => False) s.heap s.heap [] := va_S.rf
  refine lv_iconst (v := 0) hx hb dX0_allOff_0 (by decide) ?_
  refine lv_istore_n (lv' := [(1, .int 0), (0, .ref h)]) hx hb dX0_allOff_1 rfl hl (by decide) rfl (fun ls hl => ?_)
  refine lv_iconst (v := 0) hx hb dX0_allOff_2 (by decide) ?_
  refine lv_istore_n (lv' := [(2, .int 0), (1, .int 0), (0, .ref h)]) hx hb dX0_allOff_3 rfl hl (by decide) rfl (fun ls hl => ?_)
  have lp4 : ∀ (n9 i : Nat), i ≤ 12 → 12 < i + n9 → ∀ ls : Array Slot, lv_has ls 3 [(2, .int (nI i)), (1, .int (fb_ao (fb_rg uf) i)), (0, .ref h)] → W p l e ({ frames := 1, cells := 0, slots := 0, locals := 21 }) s m args below meth c s.heap [] 0 0 (MQ below (k2_QcV (.int (fb_ao (fb_rg uf) 12))) args s 0 0 (fun _ => False)) (F0 m 4 ls []) := by
    intro n9
    induction n9 with
    | zero => intro i h1 h2; exact absurd h2 (by omega)
    | succ n9 ih4 =>
      intro i hi_i hin9 ls hl
      refine lv_iload_n hx hb dX0_allOff_4 rfl (lv_at hl 0 rfl) ?_
      refine lv_bipush (v := 12) hx hb dX0_allOff_5 (by decide) ?_
      refine lv_icmp_ge (tgt := 28) hx hb dX0_allOff_7 (by decide) (fun c7 => ?_) (fun c7 => ?_)
      · skip
        have hxi : i = 12 := fb_lp_ex (by decide) hi_i c7
        subst hxi
        refine lv_iload_n hx hb dX0_allOff_28 rfl (lv_at hl 1 rfl) ?_
        exact fb_iret hx hb hr hlk dX0_allOff_29 (rfl)
      · skip
        have hi12 : i < 12 := fb_lp_in (by decide) hi_i c7
        refine lv_iload_n hx hb dX0_allOff_10 rfl (lv_at hl 1 rfl) ?_
        refine lv_aload_n hx hb dX0_allOff_11 rfl (lv_at hl 2 rfl) ?_
        refine va_get (D := G) (ci := 0) (v := .ref o) (C := RX0) (T := TX0) (N := 6) hx hb hts (hin0) hown hK hP 0 rfl rfl 1 (by decide) (hts (.fieldLink RX0 15 "FifthBeats$Piano" "off" "[I") (by decide +kernel)) (fun _ h9 => h9) rfl dX0_allOff_12 ?_
        refine lv_iload_n hx hb dX0_allOff_15 rfl (lv_at hl 0 rfl) ?_
        refine va_iald hx hb hK hP 2 0 rfl rfl (vp_in_nI hi12 (by decide)) dX0_allOff_16 ?_
        refine fb_ti (z := fb_rg uf i) (by rw [fb_cl (by omega), fb_rg_lt hi12]) ?_
        refine va_mabs hx hb (hml.trans hl.1.symm) hown (hts (.methodLink RX0 59 Lib.Math.abs.name) (by decide +kernel)) (hts (.static Lib.Math.abs.name) (by decide +kernel)) (hts (.initialized "java/lang/Math") (by decide +kernel)) (hts (.code Lib.Math.abs.name Lib.Math.abs.code 1 (some .int)) (by decide +kernel)) (by decide) (by decide) (by decide) (by decide) dX0_allOff_17 ?_
        refine fb_ti (z := fb_ab (fb_rg uf i)) rfl ?_
        refine lv_iadd hx hb dX0_allOff_20 ?_
        refine lv_istore_n (lv' := [(1, .int ((fb_ao (fb_rg uf) i) + (fb_ab (fb_rg uf i)))), (2, .int (nI i)), (0, .ref h)]) hx hb dX0_allOff_21 rfl hl (by decide) rfl (fun ls hl => ?_)
        refine lv_iinc (v := nI (i + 1)) (lv' := [(2, .int (nI (i + 1))), (1, .int ((fb_ao (fb_rg uf) i) + (fb_ab (fb_rg uf i)))), (0, .ref h)]) hx hb dX0_allOff_22 hl (k := 1) rfl (show nI i + 1 = nI (i + 1) from nI_1 i) (by decide) rfl (fun ls hl => ?_)
        refine lv_goto (tgt := 4) hx hb dX0_allOff_25 (by decide) ?_
        exact ih4 (i + 1) (by omega) (by omega) _ (lv_sub hl [0, 1, 2] (rfl))
  exact lp4 (12 + 1) 0 (by omega) (by omega) _ (lv_sub hl [0, 1, 2] (rfl))
set_option maxHeartbeats 4000000 in
set_option maxRecDepth 100000 in
theorem fb_c_X0_fastestBeats (l : Launch) (G : va_G) (cI cL : ClassId) (h n o d f : Nat) (nf uf df tf : Nat → Int32) (w : Nat) (dy : Int32) (hw : w < 12) : fb_RO l yX0_fastestBeats wsX0_fastestBeats 4 85 [.ref h] (fb_PB G cI cL (fb_PW cI h n o d f nf uf df tf (nI w) dy)) (.int (fb_fa (fb_rg nf) (fb_rg uf) w 12)) := by
  refine fb_ro_of (cc := cX0_fastestBeats) (maxL := 3) (ret := (some .int)) (by decide) rfl (Nat.le_of_ble_eq_true rfl) ?_
  intro p e s m args below meth c hx hb hr hml hlk hts hown hB ls hl
  have hown : s.vm.findClass RX0 = some m.cls := hown
  obtain ⟨hP, hK, hX⟩ := hB
  have hP : va_P G vwCl [(h, .inr (0, [.ref n, .ref o, .ref d, .ref f, .int (nI w), .int dy])), (n, .inl (cI, 12, .inl nf)), (o, .inl (cI, 12, .inl uf)), (d, .inl (cI, 12, .inl df)), (f, .inl (cI, 12, .inl tf))] s.heap := hP
  have hl : lv_has ls 3 [(0, .ref h)] := hl
  have hin0 : ∀ w ∈ u_ws RX0 TX0 6, w ∈ wsX0_fastestBeats := by decide +kernel
  have hS9 : va_S (fun _ => False) s.heap s.heap [] := va_S.rf
  refine lv_iconst (v := 0) hx hb dX0_fastestBeats_0 (by decide) ?_
  refine lv_istore_n (lv' := [(1, .int 0), (0, .ref h)]) hx hb dX0_fastestBeats_1 rfl hl (by decide) rfl (fun ls hl => ?_)
  refine lv_iconst (v := 0) hx hb dX0_fastestBeats_2 (by decide) ?_
  refine lv_istore_n (lv' := [(2, .int 0), (1, .int 0), (0, .ref h)]) hx hb dX0_fastestBeats_3 rfl hl (by decide) rfl (fun ls hl => ?_)
  have lp4 : ∀ (n9 i : Nat), i ≤ 12 → 12 < i + n9 → ∀ ls : Array Slot, lv_has ls 3 [(2, .int (nI i)), (1, .int (fb_fa (fb_rg nf) (fb_rg uf) w i)), (0, .ref h)] → W p l e ({ frames := 4, cells := 0, slots := 0, locals := 85 }) s m args below meth c s.heap [] 0 0 (MQ below (k2_QcV (.int (fb_fa (fb_rg nf) (fb_rg uf) w 12))) args s 0 0 (fun _ => False)) (F0 m 4 ls []) := by
    intro n9
    induction n9 with
    | zero => intro i h1 h2; exact absurd h2 (by omega)
    | succ n9 ih4 =>
      intro i hi_i hin9 ls hl
      refine lv_iload_n hx hb dX0_fastestBeats_4 rfl (lv_at hl 0 rfl) ?_
      refine lv_bipush (v := 12) hx hb dX0_fastestBeats_5 (by decide) ?_
      refine lv_icmp_ge (tgt := 34) hx hb dX0_fastestBeats_7 (by decide) (fun c7 => ?_) (fun c7 => ?_)
      · skip
        have hxi : i = 12 := fb_lp_ex (by decide) hi_i c7
        subst hxi
        refine lv_iload_n hx hb dX0_fastestBeats_34 rfl (lv_at hl 1 rfl) ?_
        exact fb_iret hx hb hr hlk dX0_fastestBeats_35 (rfl)
      · skip
        have hi12 : i < 12 := fb_lp_in (by decide) hi_i c7
        refine lv_iload_n hx hb dX0_fastestBeats_10 rfl (lv_at hl 0 rfl) ?_
        refine lv_aload_n hx hb dX0_fastestBeats_11 rfl (lv_at hl 2 rfl) ?_
        refine va_get (D := G) (ci := 0) (v := .int (nI w)) (C := RX0) (T := TX0) (N := 6) hx hb hts (hin0) hown hK hP 0 rfl rfl 4 (by decide) (hts (.fieldLink RX0 24 "FifthBeats$Piano" "wolf" "I") (by decide +kernel)) (fun _ h9 => h9) rfl dX0_fastestBeats_12 ?_
        refine lv_icmp_eq (tgt := 28) hx hb dX0_fastestBeats_15 (by decide) (fun c15 => ?_) (fun c15 => ?_)
        · skip
          have h15 : i = w := (nI_eq (by omega) (by omega)).mp c15
          have hl : lv_has ls 3 [(2, .int (nI i)), (1, .int (fb_fa (fb_rg nf) (fb_rg uf) w (i + 1))), (0, .ref h)] := lv_sub hl [0, 1, 2] (by rw [show fb_fa (fb_rg nf) (fb_rg uf) w i = fb_fa (fb_rg nf) (fb_rg uf) w (i + 1) from (if_pos h15).symm]; rfl)
          refine lv_iinc (v := nI (i + 1)) (lv' := [(2, .int (nI (i + 1))), (1, .int (fb_fa (fb_rg nf) (fb_rg uf) w (i + 1))), (0, .ref h)]) hx hb dX0_fastestBeats_28 hl (k := 0) rfl (show nI i + 1 = nI (i + 1) from nI_1 i) (by decide) rfl (fun ls hl => ?_)
          refine lv_goto (tgt := 4) hx hb dX0_fastestBeats_31 (by decide) ?_
          exact ih4 (i + 1) (by omega) (by omega) _ (lv_sub hl [0, 1, 2] (rfl))
        · skip
          have h15 : ¬ i = w := fun z => c15 (by rw [z])
          refine lv_iload_n hx hb dX0_fastestBeats_18 rfl (lv_at hl 1 rfl) ?_
          refine lv_aload_n hx hb dX0_fastestBeats_19 rfl (lv_at hl 2 rfl) ?_
          refine lv_iload_n hx hb dX0_fastestBeats_20 rfl (lv_at hl 0 rfl) ?_
          refine fb_roV (As := [.int (nI i)]) (rest := [.int (fb_fa (fb_rg nf) (fb_rg uf) w i)]) (n := 1) ⟨hx, hb, hml, hown, hts⟩ (fb_c_X0_fifthBeats l G cI cL h n o d f nf uf df tf w dy i (by omega)) gX0_fastestBeats_X0_fifthBeats rfl (by decide +kernel) (by decide) (fb_PB.bl _ _ _ _) (va_recv hK hP (ci := 0) (q0 := 0) rfl rfl) (fb_PB.to hP hK hX) rfl hl.1 rfl (by decide) dX0_fastestBeats_21 (by decide) ?_
          refine va_mmax hx hb (hml.trans hl.1.symm) hown (hts (.methodLink RX0 50 Lib.Math.max.name) (by decide +kernel)) (hts (.static Lib.Math.max.name) (by decide +kernel)) (hts (.initialized "java/lang/Math") (by decide +kernel)) (hts (.code Lib.Math.max.name Lib.Math.max.code 2 (some .int)) (by decide +kernel)) (by decide) (by decide) (by decide) (by decide) dX0_fastestBeats_24 ?_
          refine fb_ti (z := fb_mx (fb_fa (fb_rg nf) (fb_rg uf) w i) (fb_fb (fb_rg nf) (fb_rg uf) i)) rfl ?_
          refine fb_ti (z := fb_fa (fb_rg nf) (fb_rg uf) w (i + 1)) ((if_neg h15).symm) ?_
          refine lv_istore_n (lv' := [(1, .int (fb_fa (fb_rg nf) (fb_rg uf) w (i + 1))), (2, .int (nI i)), (0, .ref h)]) hx hb dX0_fastestBeats_27 rfl hl (by decide) rfl (fun ls hl => ?_)
          refine lv_iinc (v := nI (i + 1)) (lv' := [(2, .int (nI (i + 1))), (1, .int (fb_fa (fb_rg nf) (fb_rg uf) w (i + 1))), (0, .ref h)]) hx hb dX0_fastestBeats_28 hl (k := 1) rfl (show nI i + 1 = nI (i + 1) from nI_1 i) (by decide) rfl (fun ls hl => ?_)
          refine lv_goto (tgt := 4) hx hb dX0_fastestBeats_31 (by decide) ?_
          exact ih4 (i + 1) (by omega) (by omega) _ (lv_sub hl [0, 1, 2] (rfl))
  exact lp4 (12 + 1) 0 (by omega) (by omega) _ (lv_sub hl [0, 1, 2] (rfl))
set_option maxHeartbeats 4000000 in
set_option maxRecDepth 100000 in
theorem fb_c_X0_tellFifth (l : Launch) (G : va_G) (cI cL : ClassId) (h n o d f : Nat) (nf uf df tf : Nat → Int32) (w : Nat) (dy : Int32) (j : Nat) (q : Nat) (hj : j < 12) (hq : q < 5) (hw : w < 12) : fb_RO l yX0_tellFifth wsX0_tellFifth 4 85 [.ref h, .int (nI j), .int (nI q)] (fb_PB G cI cL (fb_PW cI h n o d f nf uf df tf (nI w) dy)) (.int (fb_tF (fb_rg nf) (fb_rg uf) w j q)) := by
  refine fb_ro_of (cc := cX0_tellFifth) (maxL := 4) (ret := (some .int)) (by decide) rfl (Nat.le_of_ble_eq_true rfl) ?_
  intro p e s m args below meth c hx hb hr hml hlk hts hown hB ls hl
  have hown : s.vm.findClass RX0 = some m.cls := hown
  obtain ⟨hP, hK, hX⟩ := hB
  have hP : va_P G vwCl [(h, .inr (0, [.ref n, .ref o, .ref d, .ref f, .int (nI w), .int dy])), (n, .inl (cI, 12, .inl nf)), (o, .inl (cI, 12, .inl uf)), (d, .inl (cI, 12, .inl df)), (f, .inl (cI, 12, .inl tf))] s.heap := hP
  have hl : lv_has ls 4 [(0, .ref h), (1, .int (nI j)), (2, .int (nI q))] := hl
  have hin0 : ∀ w ∈ u_ws RX0 TX0 6, w ∈ wsX0_tellFifth := by decide +kernel
  have hS9 : va_S (fun _ => False) s.heap s.heap [] := va_S.rf
  refine lv_iload_n hx hb dX0_tellFifth_0 rfl (lv_at hl 1 rfl) ?_
  refine lv_bipush (v := 12) hx hb dX0_tellFifth_1 (by decide) ?_
  refine fb_roS (As := [.int (nI j), .int 12]) (rest := []) (n := 2) ⟨hx, hb, hml, hown, hts⟩ (fb_c_J9_floorMod l (nI j) 12 (by decide)) gX0_tellFifth_J9_floorMod_7cf53 rfl (by decide +kernel) (by decide) fb_Bl_T (fun _ _ _ => trivial) rfl hl.1 rfl (by decide) dX0_tellFifth_3 (by decide) ?_
  refine fb_ti (z := nI j) (by rw [fb_fm_12 (by omega), Nat.mod_eq_of_lt hj]) ?_
  refine lv_istore_n (lv' := [(3, .int (nI j)), (0, .ref h), (1, .int (nI j)), (2, .int (nI q))]) hx hb dX0_tellFifth_6 rfl hl (by decide) rfl (fun ls hl => ?_)
  refine lv_iload_n hx hb dX0_tellFifth_7 rfl (lv_at hl 3 rfl) ?_
  rcases (show q = 0 ∨ q = 1 ∨ q = 2 ∨ q = 3 ∨ q = 4 by omega) with rfl | rfl | rfl | rfl | rfl
  · skip
    refine lv_tableIn (off := 32) (tgt := 40) hx hb dX0_tellFifth_8 (by decide +kernel) (by decide +kernel) (by decide +kernel) (by decide) ?_
    refine lv_aload_n hx hb dX0_tellFifth_40 rfl (lv_at hl 1 rfl) ?_
    refine va_get (D := G) (ci := 0) (v := .ref n) (C := RX0) (T := TX0) (N := 6) hx hb hts (hin0) hown hK hP 0 rfl rfl 0 (by decide) (hts (.fieldLink RX0 9 "FifthBeats$Piano" "narrow" "[I") (by decide +kernel)) (fun _ h9 => h9) rfl dX0_tellFifth_41 ?_
    refine lv_iload_n hx hb dX0_tellFifth_44 rfl (lv_at hl 0 rfl) ?_
    refine va_iald hx hb hK hP 1 0 rfl rfl (vp_in_nI hj (by decide)) dX0_tellFifth_45 ?_
    refine fb_ti (z := fb_rg nf j) (by rw [fb_cl (by omega), fb_rg_lt hj]) ?_
    exact fb_iret hx hb hr hlk dX0_tellFifth_46 (rfl)
  · skip
    refine lv_tableIn (off := 39) (tgt := 47) hx hb dX0_tellFifth_8 (by decide +kernel) (by decide +kernel) (by decide +kernel) (by decide) ?_
    refine lv_aload_n hx hb dX0_tellFifth_47 rfl (lv_at hl 1 rfl) ?_
    refine lv_iload_n hx hb dX0_tellFifth_48 rfl (lv_at hl 0 rfl) ?_
    refine fb_roV (As := [.int (nI j)]) (rest := []) (n := 1) ⟨hx, hb, hml, hown, hts⟩ (fb_c_X0_narrowness l G cI cL h n o d f nf uf df tf w dy j (by omega)) gX0_tellFifth_X0_narrowness rfl (by decide +kernel) (by decide) (fb_PB.bl _ _ _ _) (va_recv hK hP (ci := 0) (q0 := 0) rfl rfl) (fb_PB.to hP hK hX) rfl hl.1 rfl (by decide) dX0_tellFifth_49 (by decide) ?_
    exact fb_iret hx hb hr hlk dX0_tellFifth_52 (rfl)
  · skip
    refine lv_tableIn (off := 45) (tgt := 53) hx hb dX0_tellFifth_8 (by decide +kernel) (by decide +kernel) (by decide +kernel) (by decide) ?_
    refine lv_aload_n hx hb dX0_tellFifth_53 rfl (lv_at hl 1 rfl) ?_
    refine lv_iload_n hx hb dX0_tellFifth_54 rfl (lv_at hl 0 rfl) ?_
    refine fb_roV (As := [.int (nI j)]) (rest := []) (n := 1) ⟨hx, hb, hml, hown, hts⟩ (fb_c_X0_fifthWidth l G cI cL h n o d f nf uf df tf w dy j (by omega)) gX0_tellFifth_X0_fifthWidth rfl (by decide +kernel) (by decide) (fb_PB.bl _ _ _ _) (va_recv hK hP (ci := 0) (q0 := 0) rfl rfl) (fb_PB.to hP hK hX) rfl hl.1 rfl (by decide) dX0_tellFifth_55 (by decide) ?_
    exact fb_iret hx hb hr hlk dX0_tellFifth_58 (rfl)
  · skip
    refine lv_tableIn (off := 51) (tgt := 59) hx hb dX0_tellFifth_8 (by decide +kernel) (by decide +kernel) (by decide +kernel) (by decide) ?_
    refine lv_aload_n hx hb dX0_tellFifth_59 rfl (lv_at hl 1 rfl) ?_
    refine lv_iload_n hx hb dX0_tellFifth_60 rfl (lv_at hl 0 rfl) ?_
    refine fb_roV (As := [.int (nI j)]) (rest := []) (n := 1) ⟨hx, hb, hml, hown, hts⟩ (fb_c_X0_fifthBeats l G cI cL h n o d f nf uf df tf w dy j (by omega)) gX0_tellFifth_X0_fifthBeats rfl (by decide +kernel) (by decide) (fb_PB.bl _ _ _ _) (va_recv hK hP (ci := 0) (q0 := 0) rfl rfl) (fb_PB.to hP hK hX) rfl hl.1 rfl (by decide) dX0_tellFifth_61 (by decide) ?_
    exact fb_iret hx hb hr hlk dX0_tellFifth_64 (rfl)
  · skip
    refine lv_tableOut (tgt := 65) hx hb dX0_tellFifth_8 (by decide +kernel) (by decide) ?_
    refine lv_iload_n hx hb dX0_tellFifth_65 rfl (lv_at hl 0 rfl) ?_
    refine lv_aload_n hx hb dX0_tellFifth_66 rfl (lv_at hl 1 rfl) ?_
    refine va_get (D := G) (ci := 0) (v := .int (nI w)) (C := RX0) (T := TX0) (N := 6) hx hb hts (hin0) hown hK hP 0 rfl rfl 4 (by decide) (hts (.fieldLink RX0 24 "FifthBeats$Piano" "wolf" "I") (by decide +kernel)) (fun _ h9 => h9) rfl dX0_tellFifth_67 ?_
    refine lv_icmp_ne (tgt := 77) hx hb dX0_tellFifth_70 (by decide) (fun c70 => ?_) (fun c70 => ?_)
    · skip
      have h70 : ¬ j = w := fun z => c70 (by rw [z])
      refine lv_iconst (v := 0) hx hb dX0_tellFifth_77 (by decide) ?_
      exact fb_iret hx hb hr hlk dX0_tellFifth_78 ((if_neg h70).symm)
    · skip
      have h70 : j = w := (nI_eq (by omega) (by omega)).mp c70
      refine lv_iconst (v := 1) hx hb dX0_tellFifth_73 (by decide) ?_
      refine lv_goto (tgt := 78) hx hb dX0_tellFifth_74 (by decide) ?_
      exact fb_iret hx hb hr hlk dX0_tellFifth_78 ((if_pos h70).symm)
set_option maxHeartbeats 4000000 in
set_option maxRecDepth 100000 in
theorem fb_c_X0_tellMajor (l : Launch) (G : va_G) (cI cL : ClassId) (h n o d f : Nat) (nf uf df tf : Nat → Int32) (w : Nat) (dy : Int32) (j : Nat) (q : Nat) (hj : j < 12) (hq : q < 3) : fb_RO l yX0_tellMajor wsX0_tellMajor 4 89 [.ref h, .int (nI j), .int (nI q)] (fb_PB G cI cL (fb_PW cI h n o d f nf uf df tf (nI w) dy)) (.int (fb_tM (fb_rg nf) (fb_rg uf) j q)) := by
  refine fb_ro_of (cc := cX0_tellMajor) (maxL := 3) (ret := (some .int)) (by decide) rfl (Nat.le_of_ble_eq_true rfl) ?_
  intro p e s m args below meth c hx hb hr hml hlk hts hown hB ls hl
  have hown : s.vm.findClass RX0 = some m.cls := hown
  obtain ⟨hP, hK, hX⟩ := hB
  have hP : va_P G vwCl [(h, .inr (0, [.ref n, .ref o, .ref d, .ref f, .int (nI w), .int dy])), (n, .inl (cI, 12, .inl nf)), (o, .inl (cI, 12, .inl uf)), (d, .inl (cI, 12, .inl df)), (f, .inl (cI, 12, .inl tf))] s.heap := hP
  have hl : lv_has ls 3 [(0, .ref h), (1, .int (nI j)), (2, .int (nI q))] := hl
  have hS9 : va_S (fun _ => False) s.heap s.heap [] := va_S.rf
  refine lv_iload_n hx hb dX0_tellMajor_0 rfl (lv_at hl 2 rfl) ?_
  rcases (show q = 0 ∨ q = 1 ∨ q = 2 by omega) with rfl | rfl | rfl
  · skip
    refine lv_lookup (off := 27) (tgt := 28) hx hb dX0_tellMajor_1 (by decide +kernel) (by decide +kernel) (by decide) ?_
    refine lv_sipush (v := 386) hx hb dX0_tellMajor_28 (by decide) ?_
    refine lv_aload_n hx hb dX0_tellMajor_31 rfl (lv_at hl 0 rfl) ?_
    refine lv_iload_n hx hb dX0_tellMajor_32 rfl (lv_at hl 1 rfl) ?_
    refine fb_roV (As := [.int (nI j)]) (rest := [.int 386]) (n := 1) ⟨hx, hb, hml, hown, hts⟩ (fb_c_X0_majorOff l G cI cL h n o d f nf uf df tf w dy j (by omega)) gX0_tellMajor_X0_majorOff rfl (by decide +kernel) (by decide) (fb_PB.bl _ _ _ _) (va_recv hK hP (ci := 0) (q0 := 0) rfl rfl) (fb_PB.to hP hK hX) rfl hl.1 rfl (by decide) dX0_tellMajor_33 (by decide) ?_
    refine lv_iadd hx hb dX0_tellMajor_36 ?_
    exact fb_iret hx hb hr hlk dX0_tellMajor_37 (rfl)
  · skip
    refine lv_lookup (off := 37) (tgt := 38) hx hb dX0_tellMajor_1 (by decide +kernel) (by decide +kernel) (by decide) ?_
    refine lv_aload_n hx hb dX0_tellMajor_38 rfl (lv_at hl 0 rfl) ?_
    refine lv_iload_n hx hb dX0_tellMajor_39 rfl (lv_at hl 1 rfl) ?_
    refine fb_roV (As := [.int (nI j)]) (rest := []) (n := 1) ⟨hx, hb, hml, hown, hts⟩ (fb_c_X0_majorOff l G cI cL h n o d f nf uf df tf w dy j (by omega)) gX0_tellMajor_X0_majorOff rfl (by decide +kernel) (by decide) (fb_PB.bl _ _ _ _) (va_recv hK hP (ci := 0) (q0 := 0) rfl rfl) (fb_PB.to hP hK hX) rfl hl.1 rfl (by decide) dX0_tellMajor_40 (by decide) ?_
    exact fb_iret hx hb hr hlk dX0_tellMajor_43 (rfl)
  · skip
    refine lv_lookup (off := 43) (tgt := 44) hx hb dX0_tellMajor_1 (by decide +kernel) (by decide +kernel) (by decide) ?_
    refine lv_aload_n hx hb dX0_tellMajor_44 rfl (lv_at hl 0 rfl) ?_
    refine lv_iload_n hx hb dX0_tellMajor_45 rfl (lv_at hl 1 rfl) ?_
    refine fb_roV (As := [.int (nI j)]) (rest := []) (n := 1) ⟨hx, hb, hml, hown, hts⟩ (fb_c_X0_majorBeats l G cI cL h n o d f nf uf df tf w dy j (by omega)) gX0_tellMajor_X0_majorBeats rfl (by decide +kernel) (by decide) (fb_PB.bl _ _ _ _) (va_recv hK hP (ci := 0) (q0 := 0) rfl rfl) (fb_PB.to hP hK hX) rfl hl.1 rfl (by decide) dX0_tellMajor_46 (by decide) ?_
    exact fb_iret hx hb hr hlk dX0_tellMajor_49 (rfl)
set_option maxHeartbeats 4000000 in
set_option maxRecDepth 100000 in
theorem fb_c_X0_tellMinor (l : Launch) (G : va_G) (cI cL : ClassId) (h n o d f : Nat) (nf uf df tf : Nat → Int32) (w : Nat) (dy : Int32) (j : Nat) (q : Nat) (hj : j < 12) (hq : q < 2) : fb_RO l yX0_tellMinor wsX0_tellMinor 3 68 [.ref h, .int (nI j), .int (nI q)] (fb_PB G cI cL (fb_PW cI h n o d f nf uf df tf (nI w) dy)) (.int (fb_tI (fb_rg nf) (fb_rg uf) j q)) := by
  refine fb_ro_of (cc := cX0_tellMinor) (maxL := 4) (ret := (some .int)) (by decide) rfl (Nat.le_of_ble_eq_true rfl) ?_
  intro p e s m args below meth c hx hb hr hml hlk hts hown hB ls hl
  have hown : s.vm.findClass RX0 = some m.cls := hown
  obtain ⟨hP, hK, hX⟩ := hB
  have hP : va_P G vwCl [(h, .inr (0, [.ref n, .ref o, .ref d, .ref f, .int (nI w), .int dy])), (n, .inl (cI, 12, .inl nf)), (o, .inl (cI, 12, .inl uf)), (d, .inl (cI, 12, .inl df)), (f, .inl (cI, 12, .inl tf))] s.heap := hP
  have hl : lv_has ls 4 [(0, .ref h), (1, .int (nI j)), (2, .int (nI q))] := hl
  have hS9 : va_S (fun _ => False) s.heap s.heap [] := va_S.rf
  refine lv_aload_n hx hb dX0_tellMinor_0 rfl (lv_at hl 0 rfl) ?_
  refine lv_iload_n hx hb dX0_tellMinor_1 rfl (lv_at hl 1 rfl) ?_
  refine fb_roV (As := [.int (nI j)]) (rest := []) (n := 1) ⟨hx, hb, hml, hown, hts⟩ (fb_c_X0_minorWidth l G cI cL h n o d f nf uf df tf w dy j (by omega)) gX0_tellMinor_X0_minorWidth rfl (by decide +kernel) (by decide) (fb_PB.bl _ _ _ _) (va_recv hK hP (ci := 0) (q0 := 0) rfl rfl) (fb_PB.to hP hK hX) rfl hl.1 rfl (by decide) dX0_tellMinor_2 (by decide) ?_
  refine lv_istore_n (lv' := [(3, .int (fb_mi (fb_rg nf) (fb_rg uf) j 3)), (0, .ref h), (1, .int (nI j)), (2, .int (nI q))]) hx hb dX0_tellMinor_5 rfl hl (by decide) rfl (fun ls hl => ?_)
  refine lv_iload_n hx hb dX0_tellMinor_6 rfl (lv_at hl 3 rfl) ?_
  refine lv_if_ne (tgt := 14) hx hb dX0_tellMinor_7 (by decide) (fun c7 => ?_) (fun c7 => ?_)
  · skip
    obtain rfl : q = 1 := by
      rcases (show q = 0 ∨ q = 1 by omega) with rfl | rfl
      · exact absurd nI_0 c7
      · rfl
    refine lv_iload_n hx hb dX0_tellMinor_14 rfl (lv_at hl 0 rfl) ?_
    refine lv_sipush (v := 316) hx hb dX0_tellMinor_15 (by decide) ?_
    refine lv_isub hx hb dX0_tellMinor_18 ?_
    exact fb_iret hx hb hr hlk dX0_tellMinor_19 (rfl)
  · skip
    obtain rfl : q = 0 := by
      rcases (show q = 0 ∨ q = 1 by omega) with rfl | rfl
      · rfl
      · exact absurd c7 (by decide)
    refine lv_iload_n hx hb dX0_tellMinor_10 rfl (lv_at hl 0 rfl) ?_
    refine lv_goto (tgt := 19) hx hb dX0_tellMinor_11 (by decide) ?_
    exact fb_iret hx hb hr hlk dX0_tellMinor_19 (rfl)
set_option maxHeartbeats 4000000 in
set_option maxRecDepth 100000 in
theorem fb_c_X0_tellNote (l : Launch) (G : va_G) (cI cL : ClassId) (h n o d f : Nat) (nf uf df tf : Nat → Int32) (w : Nat) (dy : Int32) (j : Nat) (q : Nat) (hj : j < 12) (hq : q < 5) : fb_RO l yX0_tellNote wsX0_tellNote 4 89 [.ref h, .int (nI j), .int (nI q)] (fb_PB G cI cL (fb_PW cI h n o d f nf uf df tf (nI w) dy)) (.int (fb_tN (fb_rg nf) (fb_rg uf) (fb_rg df) j q)) := by
  refine fb_ro_of (cc := cX0_tellNote) (maxL := 4) (ret := (some .int)) (by decide) rfl (Nat.le_of_ble_eq_true rfl) ?_
  intro p e s m args below meth c hx hb hr hml hlk hts hown hB ls hl
  have hown : s.vm.findClass RX0 = some m.cls := hown
  obtain ⟨hP, hK, hX⟩ := hB
  have hP : va_P G vwCl [(h, .inr (0, [.ref n, .ref o, .ref d, .ref f, .int (nI w), .int dy])), (n, .inl (cI, 12, .inl nf)), (o, .inl (cI, 12, .inl uf)), (d, .inl (cI, 12, .inl df)), (f, .inl (cI, 12, .inl tf))] s.heap := hP
  have hl : lv_has ls 4 [(0, .ref h), (1, .int (nI j)), (2, .int (nI q))] := hl
  have hin0 : ∀ w ∈ u_ws RX0 TX0 6, w ∈ wsX0_tellNote := by decide +kernel
  have hS9 : va_S (fun _ => False) s.heap s.heap [] := va_S.rf
  refine lv_iload_n hx hb dX0_tellNote_0 rfl (lv_at hl 1 rfl) ?_
  refine lv_bipush (v := 12) hx hb dX0_tellNote_1 (by decide) ?_
  refine fb_roS (As := [.int (nI j), .int 12]) (rest := []) (n := 2) ⟨hx, hb, hml, hown, hts⟩ (fb_c_J9_floorMod l (nI j) 12 (by decide)) gX0_tellNote_J9_floorMod_7cf53 rfl (by decide +kernel) (by decide) fb_Bl_T (fun _ _ _ => trivial) rfl hl.1 rfl (by decide) dX0_tellNote_3 (by decide) ?_
  refine fb_ti (z := nI j) (by rw [fb_fm_12 (by omega), Nat.mod_eq_of_lt hj]) ?_
  refine lv_istore_n (lv' := [(3, .int (nI j)), (0, .ref h), (1, .int (nI j)), (2, .int (nI q))]) hx hb dX0_tellNote_6 rfl hl (by decide) rfl (fun ls hl => ?_)
  refine lv_iload_n hx hb dX0_tellNote_7 rfl (lv_at hl 3 rfl) ?_
  rcases (show q = 0 ∨ q = 1 ∨ q = 2 ∨ q = 3 ∨ q = 4 by omega) with rfl | rfl | rfl | rfl | rfl
  · skip
    refine lv_tableIn (off := 32) (tgt := 40) hx hb dX0_tellNote_8 (by decide +kernel) (by decide +kernel) (by decide +kernel) (by decide) ?_
    refine lv_aload_n hx hb dX0_tellNote_40 rfl (lv_at hl 1 rfl) ?_
    refine va_get (D := G) (ci := 0) (v := .ref o) (C := RX0) (T := TX0) (N := 6) hx hb hts (hin0) hown hK hP 0 rfl rfl 1 (by decide) (hts (.fieldLink RX0 15 "FifthBeats$Piano" "off" "[I") (by decide +kernel)) (fun _ h9 => h9) rfl dX0_tellNote_41 ?_
    refine lv_iload_n hx hb dX0_tellNote_44 rfl (lv_at hl 0 rfl) ?_
    refine va_iald hx hb hK hP 2 0 rfl rfl (vp_in_nI hj (by decide)) dX0_tellNote_45 ?_
    refine fb_ti (z := fb_rg uf j) (by rw [fb_cl (by omega), fb_rg_lt hj]) ?_
    exact fb_iret hx hb hr hlk dX0_tellNote_46 (rfl)
  · skip
    refine lv_tableIn (off := 39) (tgt := 47) hx hb dX0_tellNote_8 (by decide +kernel) (by decide +kernel) (by decide +kernel) (by decide) ?_
    refine lv_aload_n hx hb dX0_tellNote_47 rfl (lv_at hl 1 rfl) ?_
    refine va_get (D := G) (ci := 0) (v := .ref d) (C := RX0) (T := TX0) (N := 6) hx hb hts (hin0) hown hK hP 0 rfl rfl 2 (by decide) (hts (.fieldLink RX0 18 "FifthBeats$Piano" "drift" "[I") (by decide +kernel)) (fun _ h9 => h9) rfl dX0_tellNote_48 ?_
    refine lv_iload_n hx hb dX0_tellNote_51 rfl (lv_at hl 0 rfl) ?_
    refine va_iald hx hb hK hP 3 0 rfl rfl (vp_in_nI hj (by decide)) dX0_tellNote_52 ?_
    refine fb_ti (z := fb_rg df j) (by rw [fb_cl (by omega), fb_rg_lt hj]) ?_
    exact fb_iret hx hb hr hlk dX0_tellNote_53 (rfl)
  · skip
    refine lv_tableIn (off := 46) (tgt := 54) hx hb dX0_tellNote_8 (by decide +kernel) (by decide +kernel) (by decide +kernel) (by decide) ?_
    refine lv_aload_n hx hb dX0_tellNote_54 rfl (lv_at hl 1 rfl) ?_
    refine lv_iload_n hx hb dX0_tellNote_55 rfl (lv_at hl 0 rfl) ?_
    refine fb_roV (As := [.int (nI j)]) (rest := []) (n := 1) ⟨hx, hb, hml, hown, hts⟩ (fb_c_X0_keyboardNumber l G cI cL h n o d f nf uf df tf w dy j (by omega)) gX0_tellNote_X0_keyboardNumber rfl (by decide +kernel) (by decide) (fb_PB.bl _ _ _ _) (va_recv hK hP (ci := 0) (q0 := 0) rfl rfl) (fb_PB.to hP hK hX) rfl hl.1 rfl (by decide) dX0_tellNote_56 (by decide) ?_
    exact fb_iret hx hb hr hlk dX0_tellNote_59 (rfl)
  · skip
    refine lv_tableIn (off := 52) (tgt := 60) hx hb dX0_tellNote_8 (by decide +kernel) (by decide +kernel) (by decide +kernel) (by decide) ?_
    refine lv_aload_n hx hb dX0_tellNote_60 rfl (lv_at hl 1 rfl) ?_
    refine lv_iload_n hx hb dX0_tellNote_61 rfl (lv_at hl 0 rfl) ?_
    refine fb_roV (As := [.int (nI j)]) (rest := []) (n := 1) ⟨hx, hb, hml, hown, hts⟩ (fb_c_X0_swings l G cI cL h n o d f nf uf df tf w dy j (by omega)) gX0_tellNote_X0_swings rfl (by decide +kernel) (by decide) (fb_PB.bl _ _ _ _) (va_recv hK hP (ci := 0) (q0 := 0) rfl rfl) (fb_PB.to hP hK hX) rfl hl.1 rfl (by decide) dX0_tellNote_62 (by decide) ?_
    exact fb_iret hx hb hr hlk dX0_tellNote_65 (rfl)
  · skip
    refine lv_tableOut (tgt := 66) hx hb dX0_tellNote_8 (by decide +kernel) (by decide) ?_
    refine lv_aload_n hx hb dX0_tellNote_66 rfl (lv_at hl 1 rfl) ?_
    refine lv_iload_n hx hb dX0_tellNote_67 rfl (lv_at hl 0 rfl) ?_
    refine fb_roV (As := [.int (nI j)]) (rest := []) (n := 1) ⟨hx, hb, hml, hown, hts⟩ (fb_c_X0_height l G cI cL h n o d f nf uf df tf w dy j (by omega)) gX0_tellNote_X0_height rfl (by decide +kernel) (by decide) (fb_PB.bl _ _ _ _) (va_recv hK hP (ci := 0) (q0 := 0) rfl rfl) (fb_PB.to hP hK hX) rfl hl.1 rfl (by decide) dX0_tellNote_68 (by decide) ?_
    exact fb_iret hx hb hr hlk dX0_tellNote_71 (rfl)
set_option maxHeartbeats 4000000 in
set_option maxRecDepth 100000 in
theorem fb_c_X0_tellKey (l : Launch) (G : va_G) (cI cL : ClassId) (h n o d f : Nat) (nf uf df tf : Nat → Int32) (w : Nat) (dy : Int32) (j : Nat) (q : Nat) (hj : j < 12) (hq : q < 4) : fb_RO l yX0_tellKey wsX0_tellKey 5 114 [.ref h, .int (nI j), .int (nI q)] (fb_PB G cI cL (fb_PW cI h n o d f nf uf df tf (nI w) dy)) (.int (fb_tK (fb_rg nf) (fb_rg uf) (fb_rg tf) j q)) := by
  refine fb_ro_of (cc := cX0_tellKey) (maxL := 4) (ret := (some .int)) (by decide) rfl (Nat.le_of_ble_eq_true rfl) ?_
  intro p e s m args below meth c hx hb hr hml hlk hts hown hB ls hl
  have hown : s.vm.findClass RX0 = some m.cls := hown
  obtain ⟨hP, hK, hX⟩ := hB
  have hP : va_P G vwCl [(h, .inr (0, [.ref n, .ref o, .ref d, .ref f, .int (nI w), .int dy])), (n, .inl (cI, 12, .inl nf)), (o, .inl (cI, 12, .inl uf)), (d, .inl (cI, 12, .inl df)), (f, .inl (cI, 12, .inl tf))] s.heap := hP
  have hl : lv_has ls 4 [(0, .ref h), (1, .int (nI j)), (2, .int (nI q))] := hl
  have hin0 : ∀ w ∈ u_ws RX0 TX0 6, w ∈ wsX0_tellKey := by decide +kernel
  have hS9 : va_S (fun _ => False) s.heap s.heap [] := va_S.rf
  refine lv_iload_n hx hb dX0_tellKey_0 rfl (lv_at hl 1 rfl) ?_
  refine lv_bipush (v := 12) hx hb dX0_tellKey_1 (by decide) ?_
  refine fb_roS (As := [.int (nI j), .int 12]) (rest := []) (n := 2) ⟨hx, hb, hml, hown, hts⟩ (fb_c_J9_floorMod l (nI j) 12 (by decide)) gX0_tellKey_J9_floorMod_7cf53 rfl (by decide +kernel) (by decide) fb_Bl_T (fun _ _ _ => trivial) rfl hl.1 rfl (by decide) dX0_tellKey_3 (by decide) ?_
  refine fb_ti (z := nI j) (by rw [fb_fm_12 (by omega), Nat.mod_eq_of_lt hj]) ?_
  refine lv_istore_n (lv' := [(3, .int (nI j)), (0, .ref h), (1, .int (nI j)), (2, .int (nI q))]) hx hb dX0_tellKey_6 rfl hl (by decide) rfl (fun ls hl => ?_)
  refine lv_iload_n hx hb dX0_tellKey_7 rfl (lv_at hl 3 rfl) ?_
  rcases (show q = 0 ∨ q = 1 ∨ q = 2 ∨ q = 3 by omega) with rfl | rfl | rfl | rfl
  · skip
    refine lv_tableIn (off := 28) (tgt := 36) hx hb dX0_tellKey_8 (by decide +kernel) (by decide +kernel) (by decide +kernel) (by decide) ?_
    refine lv_aload_n hx hb dX0_tellKey_36 rfl (lv_at hl 1 rfl) ?_
    refine va_get (D := G) (ci := 0) (v := .ref f) (C := RX0) (T := TX0) (N := 6) hx hb hts (hin0) hown hK hP 0 rfl rfl 3 (by decide) (hts (.fieldLink RX0 21 "FifthBeats$Piano" "often" "[I") (by decide +kernel)) (fun _ h9 => h9) rfl dX0_tellKey_37 ?_
    refine lv_iload_n hx hb dX0_tellKey_40 rfl (lv_at hl 0 rfl) ?_
    refine va_iald hx hb hK hP 4 0 rfl rfl (vp_in_nI hj (by decide)) dX0_tellKey_41 ?_
    refine fb_ti (z := fb_rg tf j) (by rw [fb_cl (by omega), fb_rg_lt hj]) ?_
    exact fb_iret hx hb hr hlk dX0_tellKey_42 (rfl)
  · skip
    refine lv_tableIn (off := 35) (tgt := 43) hx hb dX0_tellKey_8 (by decide +kernel) (by decide +kernel) (by decide +kernel) (by decide) ?_
    refine lv_aload_n hx hb dX0_tellKey_43 rfl (lv_at hl 1 rfl) ?_
    refine lv_iload_n hx hb dX0_tellKey_44 rfl (lv_at hl 0 rfl) ?_
    refine fb_roV (As := [.int (nI j)]) (rest := []) (n := 1) ⟨hx, hb, hml, hown, hts⟩ (fb_c_X0_sourness l G cI cL h n o d f nf uf df tf w dy j (by omega)) gX0_tellKey_X0_sourness rfl (by decide +kernel) (by decide) (fb_PB.bl _ _ _ _) (va_recv hK hP (ci := 0) (q0 := 0) rfl rfl) (fb_PB.to hP hK hX) rfl hl.1 rfl (by decide) dX0_tellKey_45 (by decide) ?_
    exact fb_iret hx hb hr hlk dX0_tellKey_48 (rfl)
  · skip
    refine lv_tableIn (off := 41) (tgt := 49) hx hb dX0_tellKey_8 (by decide +kernel) (by decide +kernel) (by decide +kernel) (by decide) ?_
    refine lv_aload_n hx hb dX0_tellKey_49 rfl (lv_at hl 1 rfl) ?_
    refine lv_iload_n hx hb dX0_tellKey_50 rfl (lv_at hl 0 rfl) ?_
    refine fb_roV (As := [.int (nI j)]) (rest := []) (n := 1) ⟨hx, hb, hml, hown, hts⟩ (fb_c_X0_sourness l G cI cL h n o d f nf uf df tf w dy j (by omega)) gX0_tellKey_X0_sourness rfl (by decide +kernel) (by decide) (fb_PB.bl _ _ _ _) (va_recv hK hP (ci := 0) (q0 := 0) rfl rfl) (fb_PB.to hP hK hX) rfl hl.1 rfl (by decide) dX0_tellKey_51 (by decide) ?_
    refine lv_aload_n hx hb dX0_tellKey_54 rfl (lv_at hl 1 rfl) ?_
    refine va_get (D := G) (ci := 0) (v := .ref f) (C := RX0) (T := TX0) (N := 6) hx hb hts (hin0) hown hK hP 0 rfl rfl 3 (by decide) (hts (.fieldLink RX0 21 "FifthBeats$Piano" "often" "[I") (by decide +kernel)) (fun _ h9 => h9) rfl dX0_tellKey_55 ?_
    refine lv_iload_n hx hb dX0_tellKey_58 rfl (lv_at hl 0 rfl) ?_
    refine va_iald hx hb hK hP 4 0 rfl rfl (vp_in_nI hj (by decide)) dX0_tellKey_59 ?_
    refine fb_ti (z := fb_rg tf j) (by rw [fb_cl (by omega), fb_rg_lt hj]) ?_
    refine lv_imul hx hb dX0_tellKey_60 ?_
    exact fb_iret hx hb hr hlk dX0_tellKey_61 (rfl)
  · skip
    refine lv_tableOut (tgt := 62) hx hb dX0_tellKey_8 (by decide +kernel) (by decide) ?_
    refine lv_aload_n hx hb dX0_tellKey_62 rfl (lv_at hl 1 rfl) ?_
    refine lv_iload_n hx hb dX0_tellKey_63 rfl (lv_at hl 0 rfl) ?_
    refine fb_roV (As := [.int (nI j)]) (rest := []) (n := 1) ⟨hx, hb, hml, hown, hts⟩ (fb_c_X0_place l G cI cL h n o d f nf uf df tf w dy j hj) gX0_tellKey_X0_place rfl (by decide +kernel) (by decide) (fb_PB.bl _ _ _ _) (va_recv hK hP (ci := 0) (q0 := 0) rfl rfl) (fb_PB.to hP hK hX) rfl hl.1 rfl (by decide) dX0_tellKey_64 (by decide) ?_
    exact fb_iret hx hb hr hlk dX0_tellKey_67 (rfl)
set_option maxHeartbeats 4000000 in
set_option maxRecDepth 100000 in
theorem fb_c_X0_tellCount (l : Launch) (G : va_G) (cI cL : ClassId) (h n o d f : Nat) (nf uf df tf : Nat → Int32) (w : Nat) (dy : Int32) (q : Nat) (hq : q < 7) (hw : w < 12) : fb_RO l yX0_tellCount wsX0_tellCount 5 111 [.ref h, .int (nI q)] (fb_PB G cI cL (fb_PW cI h n o d f nf uf df tf (nI w) dy)) (.int (fb_tC (fb_rg nf) (fb_rg uf) (fb_rg tf) w dy q)) := by
  refine fb_ro_of (cc := cX0_tellCount) (maxL := 2) (ret := (some .int)) (by decide) rfl (Nat.le_of_ble_eq_true rfl) ?_
  intro p e s m args below meth c hx hb hr hml hlk hts hown hB ls hl
  have hown : s.vm.findClass RX0 = some m.cls := hown
  obtain ⟨hP, hK, hX⟩ := hB
  have hP : va_P G vwCl [(h, .inr (0, [.ref n, .ref o, .ref d, .ref f, .int (nI w), .int dy])), (n, .inl (cI, 12, .inl nf)), (o, .inl (cI, 12, .inl uf)), (d, .inl (cI, 12, .inl df)), (f, .inl (cI, 12, .inl tf))] s.heap := hP
  have hl : lv_has ls 2 [(0, .ref h), (1, .int (nI q))] := hl
  have hin0 : ∀ w ∈ u_ws RX0 TX0 6, w ∈ wsX0_tellCount := by decide +kernel
  have hS9 : va_S (fun _ => False) s.heap s.heap [] := va_S.rf
  refine lv_iload_n hx hb dX0_tellCount_0 rfl (lv_at hl 1 rfl) ?_
  rcases (show q = 0 ∨ q = 1 ∨ q = 2 ∨ q = 3 ∨ q = 4 ∨ q = 5 ∨ q = 6 by omega) with rfl | rfl | rfl | rfl | rfl | rfl | rfl
  · skip
    refine lv_tableIn (off := 39) (tgt := 40) hx hb dX0_tellCount_1 (by decide +kernel) (by decide +kernel) (by decide +kernel) (by decide) ?_
    refine lv_aload_n hx hb dX0_tellCount_40 rfl (lv_at hl 0 rfl) ?_
    refine va_get (D := G) (ci := 0) (v := .int dy) (C := RX0) (T := TX0) (N := 6) hx hb hts (hin0) hown hK hP 0 rfl rfl 5 (by decide) (hts (.fieldLink RX0 28 "FifthBeats$Piano" "day" "I") (by decide +kernel)) (fun _ h9 => h9) rfl dX0_tellCount_41 ?_
    exact fb_iret hx hb hr hlk dX0_tellCount_44 (rfl)
  · skip
    refine lv_tableIn (off := 44) (tgt := 45) hx hb dX0_tellCount_1 (by decide +kernel) (by decide +kernel) (by decide +kernel) (by decide) ?_
    refine lv_aload_n hx hb dX0_tellCount_45 rfl (lv_at hl 0 rfl) ?_
    refine va_get (D := G) (ci := 0) (v := .int (nI w)) (C := RX0) (T := TX0) (N := 6) hx hb hts (hin0) hown hK hP 0 rfl rfl 4 (by decide) (hts (.fieldLink RX0 24 "FifthBeats$Piano" "wolf" "I") (by decide +kernel)) (fun _ h9 => h9) rfl dX0_tellCount_46 ?_
    exact fb_iret hx hb hr hlk dX0_tellCount_49 (rfl)
  · skip
    refine lv_tableIn (off := 49) (tgt := 50) hx hb dX0_tellCount_1 (by decide +kernel) (by decide +kernel) (by decide +kernel) (by decide) ?_
    refine lv_aload_n hx hb dX0_tellCount_50 rfl (lv_at hl 0 rfl) ?_
    refine fb_roV (As := []) (rest := []) (n := 0) ⟨hx, hb, hml, hown, hts⟩ (fb_c_X0_cost l G cI cL h n o d f nf uf df tf w dy  ) gX0_tellCount_X0_cost rfl (by decide +kernel) (by decide) (fb_PB.bl _ _ _ _) (va_recv hK hP (ci := 0) (q0 := 0) rfl rfl) (fb_PB.to hP hK hX) rfl hl.1 rfl (by decide) dX0_tellCount_51 (by decide) ?_
    exact fb_iret hx hb hr hlk dX0_tellCount_54 (rfl)
  · skip
    refine lv_tableIn (off := 54) (tgt := 55) hx hb dX0_tellCount_1 (by decide +kernel) (by decide +kernel) (by decide +kernel) (by decide) ?_
    refine lv_aload_n hx hb dX0_tellCount_55 rfl (lv_at hl 0 rfl) ?_
    refine fb_roV (As := []) (rest := []) (n := 0) ⟨hx, hb, hml, hown, hts⟩ (fb_c_X0_mostMajorOff l G cI cL h n o d f nf uf df tf w dy  ) gX0_tellCount_X0_mostMajorOff rfl (by decide +kernel) (by decide) (fb_PB.bl _ _ _ _) (va_recv hK hP (ci := 0) (q0 := 0) rfl rfl) (fb_PB.to hP hK hX) rfl hl.1 rfl (by decide) dX0_tellCount_56 (by decide) ?_
    exact fb_iret hx hb hr hlk dX0_tellCount_59 (rfl)
  · skip
    refine lv_tableIn (off := 59) (tgt := 60) hx hb dX0_tellCount_1 (by decide +kernel) (by decide +kernel) (by decide +kernel) (by decide) ?_
    refine lv_aload_n hx hb dX0_tellCount_60 rfl (lv_at hl 0 rfl) ?_
    refine fb_roV (As := []) (rest := []) (n := 0) ⟨hx, hb, hml, hown, hts⟩ (fb_c_X0_pureFifths l G cI cL h n o d f nf uf df tf w dy  ) gX0_tellCount_X0_pureFifths rfl (by decide +kernel) (by decide) (fb_PB.bl _ _ _ _) (va_recv hK hP (ci := 0) (q0 := 0) rfl rfl) (fb_PB.to hP hK hX) rfl hl.1 rfl (by decide) dX0_tellCount_61 (by decide) ?_
    exact fb_iret hx hb hr hlk dX0_tellCount_64 (rfl)
  · skip
    refine lv_tableIn (off := 64) (tgt := 65) hx hb dX0_tellCount_1 (by decide +kernel) (by decide +kernel) (by decide +kernel) (by decide) ?_
    refine lv_aload_n hx hb dX0_tellCount_65 rfl (lv_at hl 0 rfl) ?_
    refine fb_roV (As := []) (rest := []) (n := 0) ⟨hx, hb, hml, hown, hts⟩ (fb_c_X0_allOff l G cI cL h n o d f nf uf df tf w dy  ) gX0_tellCount_X0_allOff rfl (by decide +kernel) (by decide) (fb_PB.bl _ _ _ _) (va_recv hK hP (ci := 0) (q0 := 0) rfl rfl) (fb_PB.to hP hK hX) rfl hl.1 rfl (by decide) dX0_tellCount_66 (by decide) ?_
    exact fb_iret hx hb hr hlk dX0_tellCount_69 (rfl)
  · skip
    refine lv_tableOut (tgt := 70) hx hb dX0_tellCount_1 (by decide +kernel) (by decide) ?_
    refine lv_aload_n hx hb dX0_tellCount_70 rfl (lv_at hl 0 rfl) ?_
    refine fb_roV (As := []) (rest := []) (n := 0) ⟨hx, hb, hml, hown, hts⟩ (fb_c_X0_fastestBeats l G cI cL h n o d f nf uf df tf w dy  hw) gX0_tellCount_X0_fastestBeats rfl (by decide +kernel) (by decide) (fb_PB.bl _ _ _ _) (va_recv hK hP (ci := 0) (q0 := 0) rfl rfl) (fb_PB.to hP hK hX) rfl hl.1 rfl (by decide) dX0_tellCount_71 (by decide) ?_
    exact fb_iret hx hb hr hlk dX0_tellCount_74 (rfl)
set_option maxHeartbeats 4000000 in
set_option maxRecDepth 100000 in
theorem fb_c_X0_wolfNarrow (l : Launch) (G : va_G) (cI cL : ClassId) (h n o d f : Nat) (nf uf df tf : Nat → Int32) (w : Nat) (dy : Int32) (hw : w < 12) : fb_RO l yX0_wolfNarrow wsX0_wolfNarrow 1 22 [.ref h] (fb_PB G cI cL (fb_PW cI h n o d f nf uf df tf (nI w) dy)) (.int ((fb_rg nf) w)) := by
  refine fb_ro_of (cc := cX0_wolfNarrow) (maxL := 1) (ret := (some .int)) (by decide) rfl (Nat.le_of_ble_eq_true rfl) ?_
  intro p e s m args below meth c hx hb hr hml hlk hts hown hB ls hl
  have hown : s.vm.findClass RX0 = some m.cls := hown
  obtain ⟨hP, hK, hX⟩ := hB
  have hP : va_P G vwCl [(h, .inr (0, [.ref n, .ref o, .ref d, .ref f, .int (nI w), .int dy])), (n, .inl (cI, 12, .inl nf)), (o, .inl (cI, 12, .inl uf)), (d, .inl (cI, 12, .inl df)), (f, .inl (cI, 12, .inl tf))] s.heap := hP
  have hl : lv_has ls 1 [(0, .ref h)] := hl
  have hin0 : ∀ w ∈ u_ws RX0 TX0 6, w ∈ wsX0_wolfNarrow := by decide +kernel
  have hS9 : va_S (fun _ => False) s.heap s.heap [] := va_S.rf
  refine lv_aload_n hx hb dX0_wolfNarrow_0 rfl (lv_at hl 0 rfl) ?_
  refine va_get (D := G) (ci := 0) (v := .ref n) (C := RX0) (T := TX0) (N := 6) hx hb hts (hin0) hown hK hP 0 rfl rfl 0 (by decide) (hts (.fieldLink RX0 9 "FifthBeats$Piano" "narrow" "[I") (by decide +kernel)) (fun _ h9 => h9) rfl dX0_wolfNarrow_1 ?_
  refine lv_aload_n hx hb dX0_wolfNarrow_4 rfl (lv_at hl 0 rfl) ?_
  refine va_get (D := G) (ci := 0) (v := .int (nI w)) (C := RX0) (T := TX0) (N := 6) hx hb hts (hin0) hown hK hP 0 rfl rfl 4 (by decide) (hts (.fieldLink RX0 24 "FifthBeats$Piano" "wolf" "I") (by decide +kernel)) (fun _ h9 => h9) rfl dX0_wolfNarrow_5 ?_
  refine lv_bipush (v := 12) hx hb dX0_wolfNarrow_8 (by decide) ?_
  refine fb_roS (As := [.int (nI w), .int 12]) (rest := [.ref n]) (n := 2) ⟨hx, hb, hml, hown, hts⟩ (fb_c_J9_floorMod l (nI w) 12 (by decide)) gX0_wolfNarrow_J9_floorMod_7cf53 rfl (by decide +kernel) (by decide) fb_Bl_T (fun _ _ _ => trivial) rfl hl.1 rfl (by decide) dX0_wolfNarrow_10 (by decide) ?_
  refine fb_ti (z := nI w) (by rw [fb_fm_12 (by omega), Nat.mod_eq_of_lt hw]) ?_
  refine va_iald hx hb hK hP 1 0 rfl rfl (vp_in_nI hw (by decide)) dX0_wolfNarrow_13 ?_
  refine fb_ti (z := fb_rg nf w) (by rw [fb_cl (by omega), fb_rg_lt hw]) ?_
  exact fb_iret hx hb hr hlk dX0_wolfNarrow_14 (rfl)
set_option maxHeartbeats 4000000 in
set_option maxRecDepth 100000 in
theorem fb_c_X0_canTune (l : Launch) (G : va_G) (cI cL : ClassId) (h n o d f : Nat) (nf uf df tf : Nat → Int32) (w : Nat) (dy : Int32) (j : Nat) (hj : j < 12) (hw : w < 12) : fb_RO l yX0_canTune wsX0_canTune 1 22 [.ref h, .int (nI j)] (fb_PB G cI cL (fb_PW cI h n o d f nf uf df tf (nI w) dy)) (.int (if (j + 11) % 12 = w then 0 else 1)) := by
  refine fb_ro_of (cc := cX0_canTune) (maxL := 2) (ret := (some .boolean)) (by decide) rfl (Nat.le_of_ble_eq_true rfl) ?_
  intro p e s m args below meth c hx hb hr hml hlk hts hown hB ls hl
  have hown : s.vm.findClass RX0 = some m.cls := hown
  obtain ⟨hP, hK, hX⟩ := hB
  have hP : va_P G vwCl [(h, .inr (0, [.ref n, .ref o, .ref d, .ref f, .int (nI w), .int dy])), (n, .inl (cI, 12, .inl nf)), (o, .inl (cI, 12, .inl uf)), (d, .inl (cI, 12, .inl df)), (f, .inl (cI, 12, .inl tf))] s.heap := hP
  have hl : lv_has ls 2 [(0, .ref h), (1, .int (nI j))] := hl
  have hin0 : ∀ w ∈ u_ws RX0 TX0 6, w ∈ wsX0_canTune := by decide +kernel
  have hS9 : va_S (fun _ => False) s.heap s.heap [] := va_S.rf
  refine lv_iload_n hx hb dX0_canTune_0 rfl (lv_at hl 1 rfl) ?_
  refine lv_iconst (v := 1) hx hb dX0_canTune_1 (by decide) ?_
  refine lv_isub hx hb dX0_canTune_2 ?_
  refine lv_bipush (v := 12) hx hb dX0_canTune_3 (by decide) ?_
  refine fb_roS (As := [.int ((nI j) - 1), .int 12]) (rest := []) (n := 2) ⟨hx, hb, hml, hown, hts⟩ (fb_c_J9_floorMod l ((nI j) - 1) 12 (by decide)) gX0_canTune_J9_floorMod_7cf53 rfl (by decide +kernel) (by decide) fb_Bl_T (fun _ _ _ => trivial) rfl hl.1 rfl (by decide) dX0_canTune_5 (by decide) ?_
  refine fb_ti (z := nI ((j + 11) % 12)) (fb_fm_p hj) ?_
  refine lv_aload_n hx hb dX0_canTune_8 rfl (lv_at hl 0 rfl) ?_
  refine va_get (D := G) (ci := 0) (v := .int (nI w)) (C := RX0) (T := TX0) (N := 6) hx hb hts (hin0) hown hK hP 0 rfl rfl 4 (by decide) (hts (.fieldLink RX0 24 "FifthBeats$Piano" "wolf" "I") (by decide +kernel)) (fun _ h9 => h9) rfl dX0_canTune_9 ?_
  refine lv_icmp_eq (tgt := 19) hx hb dX0_canTune_12 (by decide) (fun c12 => ?_) (fun c12 => ?_)
  · skip
    have h12 : (j + 11) % 12 = w := (nI_eq (by omega) (by omega)).mp c12
    refine lv_iconst (v := 0) hx hb dX0_canTune_19 (by decide) ?_
    exact fb_zret hx hb hr hlk dX0_canTune_20 (by decide) ((if_pos h12).symm)
  · skip
    have h12 : ¬ (j + 11) % 12 = w := fun z => c12 (by rw [z])
    refine lv_iconst (v := 1) hx hb dX0_canTune_15 (by decide) ?_
    refine lv_goto (tgt := 20) hx hb dX0_canTune_16 (by decide) ?_
    exact fb_zret hx hb hr hlk dX0_canTune_20 (by decide) ((if_neg h12).symm)
set_option maxHeartbeats 4000000 in
set_option maxRecDepth 100000 in
theorem fb_c_X0_offForPureMajor (l : Launch) (G : va_G) (cI cL : ClassId) (h n o d f : Nat) (nf uf df tf : Nat → Int32) (w : Nat) (dy : Int32) (j : Nat) (hj : j < 900) : fb_RO l yX0_offForPureMajor wsX0_offForPureMajor 3 68 [.ref h, .int (nI j)] (fb_PB G cI cL (fb_PW cI h n o d f nf uf df tf (nI w) dy)) (.int ((fb_rg uf) (j + 4) - fb_mj (fb_rg nf) (fb_rg uf) j 4)) := by
  refine fb_ro_of (cc := cX0_offForPureMajor) (maxL := 2) (ret := (some .int)) (by decide) rfl (Nat.le_of_ble_eq_true rfl) ?_
  intro p e s m args below meth c hx hb hr hml hlk hts hown hB ls hl
  have hown : s.vm.findClass RX0 = some m.cls := hown
  obtain ⟨hP, hK, hX⟩ := hB
  have hP : va_P G vwCl [(h, .inr (0, [.ref n, .ref o, .ref d, .ref f, .int (nI w), .int dy])), (n, .inl (cI, 12, .inl nf)), (o, .inl (cI, 12, .inl uf)), (d, .inl (cI, 12, .inl df)), (f, .inl (cI, 12, .inl tf))] s.heap := hP
  have hl : lv_has ls 2 [(0, .ref h), (1, .int (nI j))] := hl
  have hin0 : ∀ w ∈ u_ws RX0 TX0 6, w ∈ wsX0_offForPureMajor := by decide +kernel
  have hS9 : va_S (fun _ => False) s.heap s.heap [] := va_S.rf
  refine lv_aload_n hx hb dX0_offForPureMajor_0 rfl (lv_at hl 0 rfl) ?_
  refine va_get (D := G) (ci := 0) (v := .ref o) (C := RX0) (T := TX0) (N := 6) hx hb hts (hin0) hown hK hP 0 rfl rfl 1 (by decide) (hts (.fieldLink RX0 15 "FifthBeats$Piano" "off" "[I") (by decide +kernel)) (fun _ h9 => h9) rfl dX0_offForPureMajor_1 ?_
  refine lv_iload_n hx hb dX0_offForPureMajor_4 rfl (lv_at hl 1 rfl) ?_
  refine lv_iconst (v := 4) hx hb dX0_offForPureMajor_5 (by decide) ?_
  refine lv_iadd hx hb dX0_offForPureMajor_6 ?_
  refine fb_ti (z := nI (j + 4)) (nI_add j 4) ?_
  refine lv_bipush (v := 12) hx hb dX0_offForPureMajor_7 (by decide) ?_
  refine fb_roS (As := [.int (nI (j + 4)), .int 12]) (rest := [.ref o]) (n := 2) ⟨hx, hb, hml, hown, hts⟩ (fb_c_J9_floorMod l (nI (j + 4)) 12 (by decide)) gX0_offForPureMajor_J9_floorMod_7cf53 rfl (by decide +kernel) (by decide) fb_Bl_T (fun _ _ _ => trivial) rfl hl.1 rfl (by decide) dX0_offForPureMajor_9 (by decide) ?_
  refine fb_ti (z := nI ((j + 4) % 12)) (fb_fm_12 (by omega)) ?_
  refine va_iald hx hb hK hP 2 0 rfl rfl (vp_in_nI (Nat.mod_lt _ (by decide)) (by decide)) dX0_offForPureMajor_12 ?_
  refine fb_ti (z := fb_rg uf (j + 4)) (by rw [fb_cl (by omega)]; rfl) ?_
  refine lv_aload_n hx hb dX0_offForPureMajor_13 rfl (lv_at hl 0 rfl) ?_
  refine lv_iload_n hx hb dX0_offForPureMajor_14 rfl (lv_at hl 1 rfl) ?_
  refine fb_roV (As := [.int (nI j)]) (rest := [.int (fb_rg uf (j + 4))]) (n := 1) ⟨hx, hb, hml, hown, hts⟩ (fb_c_X0_majorOff l G cI cL h n o d f nf uf df tf w dy j (by omega)) gX0_offForPureMajor_X0_majorOff rfl (by decide +kernel) (by decide) (fb_PB.bl _ _ _ _) (va_recv hK hP (ci := 0) (q0 := 0) rfl rfl) (fb_PB.to hP hK hX) rfl hl.1 rfl (by decide) dX0_offForPureMajor_15 (by decide) ?_
  refine lv_isub hx hb dX0_offForPureMajor_18 ?_
  exact fb_iret hx hb hr hlk dX0_offForPureMajor_19 (rfl)
end
section
/-! methods that change cells they were handed: contract, body, call -/
def fb_PM (G : va_G) (cI cL : ClassId) (sz : Nat) (ws : va_W) (U : State) : Prop := U.heap.size = sz ∧ va_P G vwCl ws U.heap ∧ va_K G vwCl (fb_ty cI cL) U ∧ va_D (fun _ => True) ws ∧ fb_sx (va_A ws sz) U U.heap
theorem fb_PM.bl (G : va_G) (cI cL : ClassId) (sz : Nat) (ws : va_W) : fb_Bl (fb_PM G cI cL sz ws) := fun U g mk a h =>
  ⟨h.1, h.2.1, va_K.moved (u := U) (U := U.calling g mk a) (Vm.Alike.refl U.vm) h.2.2.1, h.2.2.2.1, h.2.2.2.2.calling⟩
def fb_MV (l : Launch) (y : MethodName) (ws : List Cond) (fr lo : Nat) (av : List Value) (G : va_G) (cI cL : ClassId) (sz : Nat) (w0 w1 : va_W) : Prop :=
  Met l y ws ({ frames := fr, cells := 0, slots := 0, locals := lo }) (va_Pc av (fb_PM G cI cL sz w0)) (va_Qv (fun _ : Unit => True) (fun _ t => va_P G vwCl w1 t.heap ∧ va_D (va_A w0 sz) w1) (va_A w0 sz)) 0 0 (va_A w0 sz)
def fb_MI (l : Launch) (y : MethodName) (ws : List Cond) (fr lo : Nat) (av : List Value) (G : va_G) (cI cL : ClassId) (sz : Nat) (w0 w1 : va_W) (v : Int32) : Prop :=
  Met l y ws ({ frames := fr, cells := 0, slots := 0, locals := lo }) (va_Pc av (fb_PM G cI cL sz w0)) (va_Qi (fun (r : Int32) (_ : Unit) => r = v) (fun _ t => va_P G vwCl w1 t.heap ∧ va_D (va_A w0 sz) w1) (va_A w0 sz)) 0 0 (va_A w0 sz)
section FBM
variable {p : Program} {l : Launch} {e : Env} {R : Room} {s : State} {m : MethodId} {args : Array Value} {below : List Frame} {meth : Method} {c : Code} {H : Heap} {locs : List Loc} {cells slots : Nat} {Q : State → Prop}
variable {cc bytes : ByteArray} {pc : Nat} {ls : Array Slot} {rest st0 : List Value} {nL maxL index n fr lo sz : Nat} {Ts ws ws' : List Cond} {own C : String} {y : MethodName} {ret : Option FieldType} {b : Addr} {As av : List Value} {v : Int32} {G : va_G} {cI cL : ClassId} {w0 w1 wa wc wr wz : va_W} {A : Nat → Prop}
theorem fb_mv_of (hy : plainName y.cls = true) (hw : ws = Cond.code y cc maxL ret :: ws') (hav : (lg_sl av).length ≤ maxL)
    (body : ∀ (p : Program) (e : Env) (s : State) (m : MethodId) (args : Array Value) (below : List Frame) (meth : Method) (c : Code) (A : Nat → Prop), p.tables.exec = Jvm.exec → c.code = cc → meth.sig.returnType = ret → c.maxLocals = maxL → meth.locks = false → (∀ w ∈ ws, w.before args s = true) → s.vm.findClass y.cls = some m.cls →
      va_P G vwCl w0 s.heap → va_K G vwCl (fb_ty cI cL) s → va_D A w0 → (∀ q, s.heap.size ≤ q → A q) → fb_sx A s s.heap →
      ∀ ls, lv_has ls maxL (lv_args 0 av) → W p l e ({ frames := fr, cells := 0, slots := 0, locals := lo }) s m args below meth c s.heap [] 0 0 (MQ below (va_Qv (fun _ : Unit => True) (fun _ t => va_P G vwCl w1 t.heap ∧ va_D A w1) A) args s 0 0 A) (F0 m 0 ls [])) : fb_MV l y ws fr lo av G cI cL sz w0 w1 := by
  refine Met.ofW (cc := cc) (maxL := maxL) (ret := ret) hy hw ?_
  intro p e s m args below meth c s₁ Bd hml hv
  obtain ⟨rfl, hsz, hP, hK, hD0, hX⟩ := hv
  subst hsz
  have hl := lv_entry av (n := maxL) hav
  rw [lg_entry_eq]
  exact body p e s m _ below meth c (va_A w0 s.heap.size) Bd.exec Bd.bytes Bd.returns hml Bd.notSynchronized (atoms_spec (ws := ws) Bd.pre) (findClass_of_methodNamed Bd.named) hP hK hD0.self (fun q h => Or.inr h) hX _ hl
theorem fb_mi_of (hy : plainName y.cls = true) (hw : ws = Cond.code y cc maxL ret :: ws') (hav : (lg_sl av).length ≤ maxL)
    (body : ∀ (p : Program) (e : Env) (s : State) (m : MethodId) (args : Array Value) (below : List Frame) (meth : Method) (c : Code) (A : Nat → Prop), p.tables.exec = Jvm.exec → c.code = cc → meth.sig.returnType = ret → c.maxLocals = maxL → meth.locks = false → (∀ w ∈ ws, w.before args s = true) → s.vm.findClass y.cls = some m.cls →
      va_P G vwCl w0 s.heap → va_K G vwCl (fb_ty cI cL) s → va_D A w0 → (∀ q, s.heap.size ≤ q → A q) → fb_sx A s s.heap →
      ∀ ls, lv_has ls maxL (lv_args 0 av) → W p l e ({ frames := fr, cells := 0, slots := 0, locals := lo }) s m args below meth c s.heap [] 0 0 (MQ below (va_Qi (fun (r : Int32) (_ : Unit) => r = v) (fun _ t => va_P G vwCl w1 t.heap ∧ va_D A w1) A) args s 0 0 A) (F0 m 0 ls [])) : fb_MI l y ws fr lo av G cI cL sz w0 w1 v := by
  refine Met.ofW (cc := cc) (maxL := maxL) (ret := ret) hy hw ?_
  intro p e s m args below meth c s₁ Bd hml hv
  obtain ⟨rfl, hsz, hP, hK, hD0, hX⟩ := hv
  subst hsz
  have hl := lv_entry av (n := maxL) hav
  rw [lg_entry_eq]
  exact body p e s m _ below meth c (va_A w0 s.heap.size) Bd.exec Bd.bytes Bd.returns hml Bd.notSynchronized (atoms_spec (ws := ws) Bd.pre) (findClass_of_methodNamed Bd.named) hP hK hD0.self (fun q h => Or.inr h) hX _ hl
theorem fb_fm_of {is : List Nat} {wa wb : va_W} (h : is.map (fun i => wa[i]?) = wb.map some) : is.filterMap (fun i => wa[i]?) = wb := by
  have e : is.filterMap (fun i => wa[i]?) = (is.map (fun i => wa[i]?)).filterMap id := by rw [List.filterMap_map]; rfl
  rw [e, h, List.filterMap_map]
  show wb.filterMap some = wb
  exact List.filterMap_some
theorem fb_mvV (S : CallFix p m c cc nL s args Ts own) (hM : fb_MV l y ws fr lo (.ref b :: As) G cI cL H.size wc w1) (hT : GoodIn Ts (wsV own index C y ws)) (hw : ws = Cond.code y bytes maxL ret :: ws')
    (hd : y.cls = C ∧ y.cls ≠ "java/lang/invoke/MethodHandle" ∧ y.cls ≠ "java/lang/invoke/VarHandle" ∧ (parseMethodDescriptor y.desc).map (fun d => d.parameters.length) = some n) (hR : fr + 1 ≤ R.frames ∧ 8 + (maxL + 11) + lo ≤ R.locals)
    (hrc : ∃ cellB : Cell, H[b]? = some cellB ∧ cellB.vm.isStatics = false ∧ s.vm.findClass C = some cellB.cls) (hP : va_P G vwCl wa H) (hK : va_K G vwCl (fb_ty cI cL) s) (hD : va_D A wa) (hS : va_S A s.heap H locs) (hA : ∀ q, s.heap.size ≤ q → A q) (hX : fb_sx A s s.heap)
    (isC isR pm : List Nat) (hC : isC.map (fun i => wa[i]?) = wc.map some) (hRr : isR.map (fun i => wa[i]?) = wr.map some) (hpm : pm.map (fun i => (wr ++ w1)[i]?) = wz.map some) (hnd : va_nd isC = true) (hnr : va_nd isR = true) (hnp : va_nd pm = true) (hdis : ∀ i ∈ isR, i ∉ isC)
    (hn : As.length = n) (hsz : ls.size = nL) (hst : st0 = As.reverse ++ .ref b :: rest) (hW : (rest.map fun v => v.category).sum ≤ 8) (hdg : decode cc pc = .ok (.invokevirtual index, 3)) (hcs : cells ≤ R.cells ∧ slots ≤ R.slots)
    (kk : ∀ (H1 : Heap) (locs1 : List Loc), va_P G vwCl wz H1 → va_D A wz → va_S A s.heap H1 locs1 → W p l e R s m args below meth c H1 locs1 cells slots Q (F0 m (pc + 3) ls rest)) : W p l e R s m args below meth c H locs cells slots Q (F0 m pc ls st0) := by
  have hPc := hP.sub isC (fb_fm_of hC)
  have hDc : va_D (fun _ => True) wc := (hD.sub isC hnd hC).weaken (fun _ _ _ _ => trivial)
  have hFc := va_free hD hS hA isC hC
  refine va_callv (va_runV S hM (cwV n S.2.2.2.2 hT hw rfl rfl hd hR) ⟨fb_blind (fb_PM.bl _ _ _ _ _), hrc, fun U hU hW => ⟨rfl, by rw [hU], by rw [hU]; exact hPc, va_K.moved hW.alike hK, hDc, by rw [hU]; exact ((hX.kept hS.2.1).narrow hFc).moved hW⟩⟩ rfl hn hsz hst (lv_room hW) hdg ⟨hcs.1, hcs.2⟩) hS (fun q _ h => hFc q h) hFc (fun u t H1 locs1 ht hvm _ hB hz1 hk1 hS1 => ?_)
  obtain ⟨hP1, hD1⟩ := hB
  rw [ht] at hP1
  obtain ⟨hP2, hD2⟩ := va_join hP hD isC isR hC hRr hnr hdis hk1 hFc hP1 hD1
  exact kk H1 locs1 (hP2.sub pm (fb_fm_of hpm)) (hD2.sub pm hnp hpm) hS1
theorem fb_miV (S : CallFix p m c cc nL s args Ts own) (hM : fb_MI l y ws fr lo (.ref b :: As) G cI cL H.size wc w1 v) (hT : GoodIn Ts (wsV own index C y ws)) (hw : ws = Cond.code y bytes maxL ret :: ws')
    (hd : y.cls = C ∧ y.cls ≠ "java/lang/invoke/MethodHandle" ∧ y.cls ≠ "java/lang/invoke/VarHandle" ∧ (parseMethodDescriptor y.desc).map (fun d => d.parameters.length) = some n) (hR : fr + 1 ≤ R.frames ∧ 8 + (maxL + 11) + lo ≤ R.locals)
    (hrc : ∃ cellB : Cell, H[b]? = some cellB ∧ cellB.vm.isStatics = false ∧ s.vm.findClass C = some cellB.cls) (hP : va_P G vwCl wa H) (hK : va_K G vwCl (fb_ty cI cL) s) (hD : va_D A wa) (hS : va_S A s.heap H locs) (hA : ∀ q, s.heap.size ≤ q → A q) (hX : fb_sx A s s.heap)
    (isC isR pm : List Nat) (hC : isC.map (fun i => wa[i]?) = wc.map some) (hRr : isR.map (fun i => wa[i]?) = wr.map some) (hpm : pm.map (fun i => (wr ++ w1)[i]?) = wz.map some) (hnd : va_nd isC = true) (hnr : va_nd isR = true) (hnp : va_nd pm = true) (hdis : ∀ i ∈ isR, i ∉ isC)
    (hn : As.length = n) (hsz : ls.size = nL) (hst : st0 = As.reverse ++ .ref b :: rest) (hW : (rest.map fun v => v.category).sum ≤ 8) (hdg : decode cc pc = .ok (.invokevirtual index, 3)) (hcs : cells ≤ R.cells ∧ slots ≤ R.slots)
    (kk : ∀ (H1 : Heap) (locs1 : List Loc), va_P G vwCl wz H1 → va_D A wz → va_S A s.heap H1 locs1 → W p l e R s m args below meth c H1 locs1 cells slots Q (F0 m (pc + 3) ls (.int v :: rest))) : W p l e R s m args below meth c H locs cells slots Q (F0 m pc ls st0) := by
  have hPc := hP.sub isC (fb_fm_of hC)
  have hDc : va_D (fun _ => True) wc := (hD.sub isC hnd hC).weaken (fun _ _ _ _ => trivial)
  have hFc := va_free hD hS hA isC hC
  refine va_calli (va_runV S hM (cwV n S.2.2.2.2 hT hw rfl rfl hd hR) ⟨fb_blind (fb_PM.bl _ _ _ _ _), hrc, fun U hU hW => ⟨rfl, by rw [hU], by rw [hU]; exact hPc, va_K.moved hW.alike hK, hDc, by rw [hU]; exact ((hX.kept hS.2.1).narrow hFc).moved hW⟩⟩ rfl hn hsz hst (lv_room hW) hdg ⟨hcs.1, hcs.2⟩) hS (fun q _ h => hFc q h) hFc (fun r u t H1 locs1 ht hvm hr hB hz1 hk1 hS1 => ?_)
  obtain ⟨hP1, hD1⟩ := hB
  rw [ht] at hP1
  subst hr
  obtain ⟨hP2, hD2⟩ := va_join hP hD isC isR hC hRr hnr hdis hk1 hFc hP1 hD1
  exact kk H1 locs1 (hP2.sub pm (fb_fm_of hpm)) (hD2.sub pm hnp hpm) hS1
end FBM
end
