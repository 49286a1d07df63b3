section
-- ===== PART A: goes FIRST, ahead of the names: the tables' words, and 'selects' of the private methods out of them =====
/-- a private method of a class that the tables say can be made, by its rows of tables_1 -/
def lw_okq (q : MethodName × Nat) : Prop := (q.1.cls ≠ "java/lang/invoke/MethodHandle" ∧ q.1.cls ≠ "java/lang/invoke/VarHandle") ∧ Cond.instantiable q.1.cls q.2 ∈ tables_1 ∧ Cond.privateMethod q.1 ∈ tables_1 ∧ Cond.instanceMethod q.1 ∈ tables_1
theorem lw_p0 : lw_okq (⟨"ColumnDesk$Items", "makeRoom", "(I)V"⟩, 2) := ⟨⟨by decide +kernel, by decide +kernel⟩, List.mem_of_getElem? (i := 25) (by decide +kernel), List.mem_of_getElem? (i := 131) (by decide +kernel), List.mem_of_getElem? (i := 132) (by decide +kernel)⟩
theorem lw_p1 : lw_okq (⟨"ColumnDesk", "addSolid", "(IIIII)Z"⟩, 11) := ⟨⟨by decide +kernel, by decide +kernel⟩, List.mem_of_getElem? (i := 17) (by decide +kernel), List.mem_of_getElem? (i := 209) (by decide +kernel), List.mem_of_getElem? (i := 210) (by decide +kernel)⟩
theorem lw_p2 : lw_okq (⟨"ColumnDesk", "isFull", "()Z"⟩, 11) := ⟨⟨by decide +kernel, by decide +kernel⟩, List.mem_of_getElem? (i := 17) (by decide +kernel), List.mem_of_getElem? (i := 213) (by decide +kernel), List.mem_of_getElem? (i := 214) (by decide +kernel)⟩
theorem lw_p3 : lw_okq (⟨"ColumnDesk", "onPage", "()I"⟩, 11) := ⟨⟨by decide +kernel, by decide +kernel⟩, List.mem_of_getElem? (i := 17) (by decide +kernel), List.mem_of_getElem? (i := 217) (by decide +kernel), List.mem_of_getElem? (i := 218) (by decide +kernel)⟩
theorem lw_p4 : lw_okq (⟨"ColumnDesk", "toCome", "()I"⟩, 11) := ⟨⟨by decide +kernel, by decide +kernel⟩, List.mem_of_getElem? (i := 17) (by decide +kernel), List.mem_of_getElem? (i := 221) (by decide +kernel), List.mem_of_getElem? (i := 222) (by decide +kernel)⟩
theorem lw_p5 : lw_okq (⟨"ColumnDesk", "fillPage", "()Z"⟩, 11) := ⟨⟨by decide +kernel, by decide +kernel⟩, List.mem_of_getElem? (i := 17) (by decide +kernel), List.mem_of_getElem? (i := 302) (by decide +kernel), List.mem_of_getElem? (i := 303) (by decide +kernel)⟩
theorem lw_p6 : lw_okq (⟨"ColumnDesk", "beginPage", "()V"⟩, 11) := ⟨⟨by decide +kernel, by decide +kernel⟩, List.mem_of_getElem? (i := 17) (by decide +kernel), List.mem_of_getElem? (i := 313) (by decide +kernel), List.mem_of_getElem? (i := 314) (by decide +kernel)⟩
theorem lw_p7 : lw_okq (⟨"ColumnDesk$Sums", "takeSolid", "(LColumnDesk$Items;I)V"⟩, 6) := ⟨⟨by decide +kernel, by decide +kernel⟩, List.mem_of_getElem? (i := 45) (by decide +kernel), List.mem_of_getElem? (i := 334) (by decide +kernel), List.mem_of_getElem? (i := 335) (by decide +kernel)⟩
theorem lw_p8 : lw_okq (⟨"ColumnDesk$Sums", "takeGlue", "(LColumnDesk$Items;I)V"⟩, 6) := ⟨⟨by decide +kernel, by decide +kernel⟩, List.mem_of_getElem? (i := 45) (by decide +kernel), List.mem_of_getElem? (i := 344) (by decide +kernel), List.mem_of_getElem? (i := 345) (by decide +kernel)⟩
theorem lw_p9 : lw_okq (⟨"ColumnDesk", "isBreak", "(I)Z"⟩, 11) := ⟨⟨by decide +kernel, by decide +kernel⟩, List.mem_of_getElem? (i := 17) (by decide +kernel), List.mem_of_getElem? (i := 348) (by decide +kernel), List.mem_of_getElem? (i := 349) (by decide +kernel)⟩
theorem lw_p10 : lw_okq (⟨"ColumnDesk", "endsAtBreak", "(I)Z"⟩, 11) := ⟨⟨by decide +kernel, by decide +kernel⟩, List.mem_of_getElem? (i := 17) (by decide +kernel), List.mem_of_getElem? (i := 352) (by decide +kernel), List.mem_of_getElem? (i := 353) (by decide +kernel)⟩
theorem lw_p11 : lw_okq (⟨"ColumnDesk$Page", "badnessNow", "()J"⟩, 6) := ⟨⟨by decide +kernel, by decide +kernel⟩, List.mem_of_getElem? (i := 39) (by decide +kernel), List.mem_of_getElem? (i := 360) (by decide +kernel), List.mem_of_getElem? (i := 361) (by decide +kernel)⟩
theorem lw_p12 : lw_okq (⟨"ColumnDesk", "endPage", "()Z"⟩, 11) := ⟨⟨by decide +kernel, by decide +kernel⟩, List.mem_of_getElem? (i := 17) (by decide +kernel), List.mem_of_getElem? (i := 385) (by decide +kernel), List.mem_of_getElem? (i := 386) (by decide +kernel)⟩
theorem lw_p13 : lw_okq (⟨"ColumnDesk$MadePage", "setGlue", "(JLColumnDesk$Sums;)V"⟩, 4) := ⟨⟨by decide +kernel, by decide +kernel⟩, List.mem_of_getElem? (i := 400) (by decide +kernel), List.mem_of_getElem? (i := 436) (by decide +kernel), List.mem_of_getElem? (i := 437) (by decide +kernel)⟩
theorem lw_p14 : lw_okq (⟨"ColumnDesk$MadePage", "spread", "(JJI)V"⟩, 4) := ⟨⟨by decide +kernel, by decide +kernel⟩, List.mem_of_getElem? (i := 400) (by decide +kernel), List.mem_of_getElem? (i := 442) (by decide +kernel), List.mem_of_getElem? (i := 443) (by decide +kernel)⟩
theorem lw_p15 : lw_okq (⟨"ColumnDesk$MadePage", "shareOf", "(II)I"⟩, 4) := ⟨⟨by decide +kernel, by decide +kernel⟩, List.mem_of_getElem? (i := 400) (by decide +kernel), List.mem_of_getElem? (i := 448) (by decide +kernel), List.mem_of_getElem? (i := 449) (by decide +kernel)⟩
def lw_privs_1 : List (MethodName × Nat) := [(⟨"ColumnDesk$Items", "makeRoom", "(I)V"⟩, 2), (⟨"ColumnDesk", "addSolid", "(IIIII)Z"⟩, 11), (⟨"ColumnDesk", "isFull", "()Z"⟩, 11), (⟨"ColumnDesk", "onPage", "()I"⟩, 11), (⟨"ColumnDesk", "toCome", "()I"⟩, 11), (⟨"ColumnDesk", "fillPage", "()Z"⟩, 11), (⟨"ColumnDesk", "beginPage", "()V"⟩, 11), (⟨"ColumnDesk$Sums", "takeSolid", "(LColumnDesk$Items;I)V"⟩, 6), (⟨"ColumnDesk$Sums", "takeGlue", "(LColumnDesk$Items;I)V"⟩, 6), (⟨"ColumnDesk", "isBreak", "(I)Z"⟩, 11), (⟨"ColumnDesk", "endsAtBreak", "(I)Z"⟩, 11), (⟨"ColumnDesk$Page", "badnessNow", "()J"⟩, 6), (⟨"ColumnDesk", "endPage", "()Z"⟩, 11), (⟨"ColumnDesk$MadePage", "setGlue", "(JLColumnDesk$Sums;)V"⟩, 4), (⟨"ColumnDesk$MadePage", "spread", "(JJI)V"⟩, 4), (⟨"ColumnDesk$MadePage", "shareOf", "(II)I"⟩, 4)]
theorem lw_r1 : ∀ q ∈ lw_privs_1, lw_okq q := List.forall_mem_cons.mpr ⟨lw_p0, List.forall_mem_cons.mpr ⟨lw_p1, List.forall_mem_cons.mpr ⟨lw_p2, List.forall_mem_cons.mpr ⟨lw_p3, List.forall_mem_cons.mpr ⟨lw_p4, List.forall_mem_cons.mpr ⟨lw_p5, List.forall_mem_cons.mpr ⟨lw_p6, List.forall_mem_cons.mpr ⟨lw_p7, List.forall_mem_cons.mpr ⟨lw_p8, List.forall_mem_cons.mpr ⟨lw_p9, List.forall_mem_cons.mpr ⟨lw_p10, List.forall_mem_cons.mpr ⟨lw_p11, List.forall_mem_cons.mpr ⟨lw_p12, List.forall_mem_cons.mpr ⟨lw_p13, List.forall_mem_cons.mpr ⟨lw_p14, List.forall_mem_cons.mpr ⟨lw_p15, fun _ h => absurd h List.not_mem_nil⟩⟩⟩⟩⟩⟩⟩⟩⟩⟩⟩⟩⟩⟩⟩⟩
theorem lw_p16 : lw_okq (⟨"ColumnDesk", "loseAll", "()V"⟩, 11) := ⟨⟨by decide +kernel, by decide +kernel⟩, List.mem_of_getElem? (i := 17) (by decide +kernel), List.mem_of_getElem? (i := 471) (by decide +kernel), List.mem_of_getElem? (i := 472) (by decide +kernel)⟩
theorem lw_p17 : lw_okq (⟨"java/lang/Throwable", "fillInStackTrace", "(I)Ljava/lang/Throwable;"⟩, 6) := ⟨⟨by decide +kernel, by decide +kernel⟩, List.mem_of_getElem? (i := 520) (by decide +kernel), List.mem_of_getElem? (i := 518) (by decide +kernel), List.mem_of_getElem? (i := 519) (by decide +kernel)⟩
theorem lw_p18 : lw_okq (⟨"ColumnDesk", "dropUsed", "()V"⟩, 11) := ⟨⟨by decide +kernel, by decide +kernel⟩, List.mem_of_getElem? (i := 17) (by decide +kernel), List.mem_of_getElem? (i := 550) (by decide +kernel), List.mem_of_getElem? (i := 551) (by decide +kernel)⟩
theorem lw_p19 : lw_okq (⟨"ColumnDeskModel", "add", "(ZIIIIIII)Z"⟩, 32) := ⟨⟨by decide +kernel, by decide +kernel⟩, List.mem_of_getElem? (i := 592) (by decide +kernel), List.mem_of_getElem? (i := 719) (by decide +kernel), List.mem_of_getElem? (i := 720) (by decide +kernel)⟩
theorem lw_p20 : lw_okq (⟨"ColumnDeskModel", "all", "()I"⟩, 32) := ⟨⟨by decide +kernel, by decide +kernel⟩, List.mem_of_getElem? (i := 592) (by decide +kernel), List.mem_of_getElem? (i := 723) (by decide +kernel), List.mem_of_getElem? (i := 724) (by decide +kernel)⟩
theorem lw_p21 : lw_okq (⟨"ColumnDeskModel", "write", "(IIIIIIII)V"⟩, 32) := ⟨⟨by decide +kernel, by decide +kernel⟩, List.mem_of_getElem? (i := 592) (by decide +kernel), List.mem_of_getElem? (i := 727) (by decide +kernel), List.mem_of_getElem? (i := 728) (by decide +kernel)⟩
theorem lw_p22 : lw_okq (⟨"ColumnDeskModel", "isSolid", "(I)Z"⟩, 32) := ⟨⟨by decide +kernel, by decide +kernel⟩, List.mem_of_getElem? (i := 592) (by decide +kernel), List.mem_of_getElem? (i := 751) (by decide +kernel), List.mem_of_getElem? (i := 752) (by decide +kernel)⟩
theorem lw_p23 : lw_okq (⟨"ColumnDeskModel", "take", "(I)V"⟩, 32) := ⟨⟨by decide +kernel, by decide +kernel⟩, List.mem_of_getElem? (i := 592) (by decide +kernel), List.mem_of_getElem? (i := 755) (by decide +kernel), List.mem_of_getElem? (i := 756) (by decide +kernel)⟩
theorem lw_p24 : lw_okq (⟨"ColumnDeskModel", "move", "(II)V"⟩, 32) := ⟨⟨by decide +kernel, by decide +kernel⟩, List.mem_of_getElem? (i := 592) (by decide +kernel), List.mem_of_getElem? (i := 759) (by decide +kernel), List.mem_of_getElem? (i := 760) (by decide +kernel)⟩
theorem lw_p25 : lw_okq (⟨"ColumnDeskModel", "begin", "()V"⟩, 32) := ⟨⟨by decide +kernel, by decide +kernel⟩, List.mem_of_getElem? (i := 592) (by decide +kernel), List.mem_of_getElem? (i := 763) (by decide +kernel), List.mem_of_getElem? (i := 764) (by decide +kernel)⟩
theorem lw_p26 : lw_okq (⟨"ColumnDeskModel", "come", "()I"⟩, 32) := ⟨⟨by decide +kernel, by decide +kernel⟩, List.mem_of_getElem? (i := 592) (by decide +kernel), List.mem_of_getElem? (i := 767) (by decide +kernel), List.mem_of_getElem? (i := 768) (by decide +kernel)⟩
theorem lw_p27 : lw_okq (⟨"ColumnDeskModel", "sums", "(III)V"⟩, 32) := ⟨⟨by decide +kernel, by decide +kernel⟩, List.mem_of_getElem? (i := 592) (by decide +kernel), List.mem_of_getElem? (i := 771) (by decide +kernel), List.mem_of_getElem? (i := 772) (by decide +kernel)⟩
theorem lw_p28 : lw_okq (⟨"ColumnDeskModel", "weight", "()I"⟩, 32) := ⟨⟨by decide +kernel, by decide +kernel⟩, List.mem_of_getElem? (i := 592) (by decide +kernel), List.mem_of_getElem? (i := 775) (by decide +kernel), List.mem_of_getElem? (i := 776) (by decide +kernel)⟩
theorem lw_p29 : lw_okq (⟨"ColumnDeskModel", "end", "(I)Z"⟩, 32) := ⟨⟨by decide +kernel, by decide +kernel⟩, List.mem_of_getElem? (i := 592) (by decide +kernel), List.mem_of_getElem? (i := 787) (by decide +kernel), List.mem_of_getElem? (i := 788) (by decide +kernel)⟩
theorem lw_p30 : lw_okq (⟨"ColumnDeskModel", "share", "(IIJ)V"⟩, 32) := ⟨⟨by decide +kernel, by decide +kernel⟩, List.mem_of_getElem? (i := 592) (by decide +kernel), List.mem_of_getElem? (i := 796) (by decide +kernel), List.mem_of_getElem? (i := 797) (by decide +kernel)⟩
theorem lw_p31 : lw_okq (⟨"ColumnDeskModel", "forget", "()V"⟩, 32) := ⟨⟨by decide +kernel, by decide +kernel⟩, List.mem_of_getElem? (i := 592) (by decide +kernel), List.mem_of_getElem? (i := 804) (by decide +kernel), List.mem_of_getElem? (i := 805) (by decide +kernel)⟩
def lw_privs_2 : List (MethodName × Nat) := [(⟨"ColumnDesk", "loseAll", "()V"⟩, 11), (⟨"java/lang/Throwable", "fillInStackTrace", "(I)Ljava/lang/Throwable;"⟩, 6), (⟨"ColumnDesk", "dropUsed", "()V"⟩, 11), (⟨"ColumnDeskModel", "add", "(ZIIIIIII)Z"⟩, 32), (⟨"ColumnDeskModel", "all", "()I"⟩, 32), (⟨"ColumnDeskModel", "write", "(IIIIIIII)V"⟩, 32), (⟨"ColumnDeskModel", "isSolid", "(I)Z"⟩, 32), (⟨"ColumnDeskModel", "take", "(I)V"⟩, 32), (⟨"ColumnDeskModel", "move", "(II)V"⟩, 32), (⟨"ColumnDeskModel", "begin", "()V"⟩, 32), (⟨"ColumnDeskModel", "come", "()I"⟩, 32), (⟨"ColumnDeskModel", "sums", "(III)V"⟩, 32), (⟨"ColumnDeskModel", "weight", "()I"⟩, 32), (⟨"ColumnDeskModel", "end", "(I)Z"⟩, 32), (⟨"ColumnDeskModel", "share", "(IIJ)V"⟩, 32), (⟨"ColumnDeskModel", "forget", "()V"⟩, 32)]
theorem lw_r2 : ∀ q ∈ lw_privs_2, lw_okq q := List.forall_mem_cons.mpr ⟨lw_p16, List.forall_mem_cons.mpr ⟨lw_p17, List.forall_mem_cons.mpr ⟨lw_p18, List.forall_mem_cons.mpr ⟨lw_p19, List.forall_mem_cons.mpr ⟨lw_p20, List.forall_mem_cons.mpr ⟨lw_p21, List.forall_mem_cons.mpr ⟨lw_p22, List.forall_mem_cons.mpr ⟨lw_p23, List.forall_mem_cons.mpr ⟨lw_p24, List.forall_mem_cons.mpr ⟨lw_p25, List.forall_mem_cons.mpr ⟨lw_p26, List.forall_mem_cons.mpr ⟨lw_p27, List.forall_mem_cons.mpr ⟨lw_p28, List.forall_mem_cons.mpr ⟨lw_p29, List.forall_mem_cons.mpr ⟨lw_p30, List.forall_mem_cons.mpr ⟨lw_p31, fun _ h => absurd h List.not_mem_nil⟩⟩⟩⟩⟩⟩⟩⟩⟩⟩⟩⟩⟩⟩⟩⟩
theorem lw_p32 : lw_okq (⟨"ColumnDeskModel", "fails", "()I"⟩, 32) := ⟨⟨by decide +kernel, by decide +kernel⟩, List.mem_of_getElem? (i := 592) (by decide +kernel), List.mem_of_getElem? (i := 808) (by decide +kernel), List.mem_of_getElem? (i := 809) (by decide +kernel)⟩
def lw_privs_3 : List (MethodName × Nat) := [(⟨"ColumnDeskModel", "fails", "()I"⟩, 32)]
theorem lw_r3 : ∀ q ∈ lw_privs_3, lw_okq q := List.forall_mem_cons.mpr ⟨lw_p32, fun _ h => absurd h List.not_mem_nil⟩
def lw_privs : List (MethodName × Nat) := lw_privs_1 ++ (lw_privs_2 ++ (lw_privs_3))
def lw_tbl : List Cond := k2_sels lw_privs ++ tables_1
theorem lw_privs_ok : ∀ q ∈ lw_privs, lw_okq q := by
  show ∀ q ∈ lw_privs_1 ++ (lw_privs_2 ++ (lw_privs_3)), lw_okq q
  exact List.forall_mem_append.mpr ⟨lw_r1, List.forall_mem_append.mpr ⟨lw_r2, lw_r3⟩⟩
-- ===== end of PART A; then your names; then what follows =====
end
section
/-! ===== BEGIN words of one list among another's, by their places ===== -/
theorem goodIn_r {big : List Cond} (ws : List Cond) (ps : List Nat) (hp : ws = ps.filterMap (fun i => big[i]?)) (h : ws.all goodWord = true) : GoodIn big ws := by
  intro w hw
  have h1 := List.all_eq_true.mp h w hw
  rw [hp] at hw
  obtain ⟨i, -, hi⟩ := List.mem_filterMap.mp hw
  have hm : w ∈ big := by first | exact List.mem_of_getElem? hi | exact List.getElem?_mem hi
  exact ⟨hm, good_of_word h1⟩
theorem goodIn_app {big a b : List Cond} (ha : GoodIn big a) (hb : GoodIn big b) : GoodIn big (a ++ b) := fun w h => (List.mem_append.mp h).elim (ha w) (hb w)
theorem goodIn_ca {big a b : List Cond} {c : Cond} (ha : GoodIn big (c :: a)) (hb : GoodIn big b) : GoodIn big (c :: (a ++ b)) := fun w h => (List.mem_cons.mp h).elim (fun e => ha w (List.mem_cons.mpr (Or.inl e))) (fun h => (List.mem_append.mp h).elim (fun h => ha w (List.mem_cons.mpr (Or.inr h))) (hb w))
theorem goodIn_sub {big ws : List Cond} (hm : ∀ w ∈ ws, w ∈ big) (h : ws.all goodWord = true) : GoodIn big ws := fun w hw => ⟨hm w hw, good_of_word (List.all_eq_true.mp h w hw)⟩
/-! ===== END ===== -/

/-! ===== BEGIN exceptions that leave a method, and their catching by the caller (launches without stack traces) ===== -/
section VXA
/-! The laws vx_back, vx_callV, vx_callS, vx_callSW, vx_throw0, vx_throwS follow proofs of the library, with one case more: JvmDerived/Free/Laws.lean (Back.of_free), Shelf42/LK1.lean (callV, callS), Shelf/KitTraced.lean (throwNew0V, throwNewS). -/
/-- where a method has thrown q: the class by its name, the cell, what was written, the world -/
def vx_T (XC : String → State → State → Prop) (st : State) (q : Addr) (t : State) (mc ms : Nat) (free : Addr → Prop) : Prop :=
  ∃ (E : String) (ce : Cell) (L : List Loc), XC E st t ∧ t.heap[q]? = some ce ∧ ce.vm = .none ∧ st.vm.findClass E = some ce.cls ∧ st.WarmedH t.vm ∧ st.sameButNew ({ t with vm := st.vm } : State) L mc ms ∧ ∀ z ∈ L, free z.base
def vx_Q (Qc : Array Value → State → Outcome → State → Prop) (XC : String → State → State → Prop) (mc ms : Nat) (free : Addr → Prop) : Array Value → State → Outcome → State → Prop := fun a st o t =>
  (Qc a st o t ∧ ∃ L, FrameEnd st o t L mc ms ∧ ∀ q ∈ L, free q.base) ∨ ∃ q, o = .threw q ∧ vx_T XC st q t mc ms free
/-- a callee that returns or throws -/
def vx_Met (l : Launch) (y : MethodName) (ws : List Cond) (rm : Room) (Pc : Array Value → State → Prop) (Qc : Array Value → State → Outcome → State → Prop) (XC : String → State → State → Prop) (mc ms : Nat) (free : Addr → Prop) : Prop :=
  MetFree l y (headSpec ws rm) Pc (fun _ _ _ _ _ => True) (vx_Q Qc XC mc ms free)
def vx_Post (XC : String → State → State → Prop) (mc ms : Nat) (free : Addr → Prop) : Pt → Array Value → Addr → Pt → Prop := fun A a q B =>
  ∃ (g : JFrame) (mk : MethodId) (t : State) (L : List Loc) (E : String) (ce : Cell), B.U.heap = t.heap ∧ B.U.vm = t.vm ∧ XC E (A.U.calling g mk a) t ∧ t.heap[q]? = some ce ∧ ce.vm = .none ∧ A.U.vm.findClass E = some ce.cls ∧ B.locs = A.locs ++ L ∧ (∀ z ∈ L, free z.base) ∧ B.cells = A.cells + mc ∧ B.slots = A.slots + ms
def vx_Back (l : Launch) (R : Room) (p : Program) (e : Env) (below : List Frame) (s : State) (sargs : Array Value) (y : MethodName) (len W9 : Nat)
    (Pre : Pt → Array Value → Prop) (Post : Pt → Array Value → Option Value → Pt → Prop) (PostX : Pt → Array Value → Addr → Pt → Prop) : Prop :=
  ∀ (m : MethodId) (meth : Method) (c : Code) (A : Pt) (g : JFrame) (ig : Instr) (mk : MethodId) (a : Array Value),
    Stand p l e R s m sargs below meth c A.U A.locs A.cells A.slots → g.method = m → g.locals.size = c.maxLocals → decode c.code g.pc = .ok (ig, len) →
    2 * g.monitorRoom + (g.stack.map fun v => v.category).sum ≤ W9 → A.U.methodNamed? y = some mk → Pre A a →
    (∃ (v : Option Value) (B : Pt), Stand p l e R s m sargs below meth c B.U B.locs B.cells B.slots ∧ Post A a v B ∧
      Steps p.tables e below (doInvoke e (A.U.setTop g) [] mk a).1 (B.U.setTop { g with pc := g.pc + len, stack := v.toList ++ g.stack })) ∨
    (∃ (q : Addr) (B : Pt), Stand p l e R s m sargs below meth c B.U B.locs B.cells B.slots ∧ PostX A a q B ∧
      Steps p.tables e below (doInvoke e (A.U.setTop g) [] mk a).1 ((B.U.setTop g).pushFrame (.throwing q)))
section Payer
variable {l : Launch} {R : Room} {p : Program} {e : Env} {below : List Frame} {s : State} {sargs : Array Value} {y : MethodName} {len W9 : Nat}
theorem vx_back {ws : List Cond} {rm : Room} {Pc : Array Value → State → Prop} {Qc : Array Value → State → Outcome → State → Prop} {XC : String → State → State → Prop} {mc ms : Nat} {free : Addr → Prop} {bytes : ByteArray} {maxL : Nat} {ret : Option FieldType}
    (hM : vx_Met l y ws rm Pc Qc XC mc ms free) (hblind : FrameBlind Pc) (hrc : rm.cells = mc) (hrs : rm.slots = ms)
    (hframes : rm.frames + 1 ≤ R.frames) (hlocals : W9 + (maxL + 11) + rm.locals ≤ R.locals)
    (hws : ∀ w ∈ ws, ∀ a' U, s.WarmedH U.vm → w.before a' U = true) (hcode : Cond.code y bytes maxL ret ∈ ws) (hinit : ∀ a' U, s.WarmedH U.vm → (Cond.initialized y.cls).before a' U = true) :
    vx_Back l R p e below s sargs y len W9 (PreOf R mc ms Pc) (PostOf Qc mc ms free) (vx_Post XC mc ms free) := by
  intro m meth c A g ig mk a X hg hsize hdg hW hn hp
  have h1 : (headSpec ws rm).pre.before a A.U = true := atoms_intro fun w hw => hws w hw _ _ X.warmed
  have h2 : (Cond.code y bytes maxL ret).before a A.U = true := hws _ hcode _ _ X.warmed
  have h3 : (Cond.initialized y.cls).before a A.U = true := hinit _ _ X.warmed
  have h4 : A.cells + (headSpec ws rm).room.cells ≤ R.cells := by rw [show (headSpec ws rm).room.cells = mc from hrc]; exact hp.1
  have h5 : A.slots + (headSpec ws rm).room.slots ≤ R.slots := by rw [show (headSpec ws rm).room.slots = ms from hrs]; exact hp.2.1
  have hPc : Pc a (A.U.calling g mk a) := hblind _ _ _ _ hp.2.2
  obtain ⟨U, Ls, c0, s0⟩ := A
  dsimp only [Pt.U, Pt.locs, Pt.cells, Pt.slots] at h1 h2 h3 h4 h5 X hn hPc ⊢
  obtain ⟨methY, cY, hmY, hcY, -, hlY, -, -, -, -⟩ := Cond.code_spec hn h2
  obtain ⟨kY, hkY, -⟩ := className_of_methodNamed hn
  have hinitY : kY.init = .initialized := Cond.initialized_spec (findClass_of_methodNamed hn) hkY h3
  have h : At U g.method c below := by rw [hg]; exact X.here
  have hlocals9 : W9 + (maxL + 11) + (headSpec ws rm).room.locals ≤ R.locals := hlocals
  have happ : (headSpec ws rm).appliesLoose y e.platform (U.calling g mk a) = true :=
    Spec.appliesLoose_calling (g := g) h hdg hn hkY hinitY
      (X.room_calling (g := g) (R' := (headSpec ws rm).room) hsize hmY hcY hframes (by rw [hlY]; omega) h4 h5) h1
  obtain ⟨mid, hmid⟩ := h.above
  have hfr : (U.setTop g).frames = (.java g :: mid) ++ below := by rw [State.frames_setTop' g h.top, hmid]; rfl
  obtain ⟨o, s₂, hsteps, -, hend, hq⟩ := Steps.callFree hM p X.admits X.cas X.clock (acts := []) hfr happ hPc trivial
  have hq' : vx_Q Qc XC mc ms free a (U.calling g mk a) o s₂ := hq
  rw [State.frames_setTop' g h.top] at hend
  obtain ⟨g₀, hg0⟩ := Option.isSome_iff_exists.mp h.top
  obtain ⟨r, hr⟩ := State.topJava?_eq_some.mp hg0
  have hr' : (({ U with heap := s₂.heap, slotsUsed := s₂.slotsUsed } : State).setVm s₂.vm).frames = .java g₀ :: r := hr
  rcases hq' with ⟨hqc, L, hfe, hL⟩ | ⟨q, rfl, E, ce, L, hx, hce, hcv, hcl, hW₂, hsm, hL⟩
  · obtain ⟨⟨v, rfl⟩, hW₂, e2, q2, q3, q4, q5, q6⟩ := id hfe
    have e3 : s₂ = ({ (U.calling g mk a).setFrames s₂.frames with heap := s₂.heap, slotsUsed := s₂.slotsUsed } : State).setVm s₂.vm := by
      have : s₂ = ({ s₂ with vm := (U.calling g mk a).vm } : State).setVm s₂.vm := rfl
      rw [e2] at this
      exact this
    obtain ⟨c₂, i₂, len₂, hc₂, hd₂, hf₂⟩ := hend
    have hW' : U.WarmedH s₂.vm := hW₂
    have hcc : c₂ = c := by
      have h1 : s₂.code? g.method = U.code? g.method := by
        rw [State.code?_eq, State.code?_eq, hW'.alike.method?]
      exact Option.some.inj (hc₂.symm.trans (h1.trans h.code))
    subst hcc
    have hlen : len₂ = len := by rw [hdg] at hd₂; cases hd₂; rfl
    subst hlen
    have hs₂ : s₂ = (({ U with heap := s₂.heap, slotsUsed := s₂.slotsUsed } : State).setVm s₂.vm).setTop { g with pc := g.pc + len₂, stack := v.toList ++ g.stack } := by
      refine e3.trans ?_
      rw [hf₂, State.calling_eq h.top, State.setFrames_setFrames, State.setTop_of_frames _ hr', hr]
      rfl
    have hsame : U.sameButNew ({ U with heap := s₂.heap, slotsUsed := s₂.slotsUsed } : State) L mc ms := by
      refine ⟨?_, q2, q3, q4, q5, q6⟩
      obtain ⟨t, ht, -⟩ := State.frames_cons hr
      show ({ U with heap := s₂.heap, slotsUsed := s₂.slotsUsed } : State) = { U.setFrames U.frames with heap := s₂.heap, slotsUsed := s₂.slotsUsed }
      rw [State.setFrames_self ht]
    subst hg
    refine Or.inl ⟨v, ⟨(({ U with heap := s₂.heap, slotsUsed := s₂.slotsUsed } : State).setVm s₂.vm), Ls ++ L, c0 + mc, s0 + ms⟩,
      ⟨X.admits, X.cas, X.clock, X.frames, X.room, X.hears, X.method, X.code, (X.here.setHeapUsed s₂.heap s₂.slotsUsed).setVm hW'.alike, X.tail, State.WarmedH.trans X.warmed hW', X.limits, X.bytes, X.same.trans (hsame.setVm s.vm)⟩,
      ⟨g, mk, s₂, L, rfl, rfl, hqc, rfl, hL, rfl, rfl⟩, ?_⟩
    show Steps p.tables e below _ ((({ U with heap := s₂.heap, slotsUsed := s₂.slotsUsed } : State).setVm s₂.vm).setTop { g with pc := g.pc + len₂, stack := v.toList ++ g.stack })
    rw [← hs₂]
    exact hsteps
  · obtain ⟨e2, q2, q3, q4, q5, q6⟩ := id hsm
    have e3 : s₂ = ({ (U.calling g mk a).setFrames s₂.frames with heap := s₂.heap, slotsUsed := s₂.slotsUsed } : State).setVm s₂.vm := by
      have : s₂ = ({ s₂ with vm := (U.calling g mk a).vm } : State).setVm s₂.vm := rfl
      rw [e2] at this
      exact this
    have hf₂ : s₂.frames = .throwing q :: .java g :: U.frames.tail := hend
    have hW' : U.WarmedH s₂.vm := hW₂
    have hs₂ : s₂ = ((({ U with heap := s₂.heap, slotsUsed := s₂.slotsUsed } : State).setVm s₂.vm).setTop g).pushFrame (.throwing q) := by
      refine e3.trans ?_
      rw [hf₂, State.calling_eq h.top, State.setFrames_setFrames, State.pushFrame, State.frames_setTop _ hr', State.setTop_of_frames _ hr', State.setFrames_setFrames, hr]
      rfl
    have hsame : U.sameButNew ({ U with heap := s₂.heap, slotsUsed := s₂.slotsUsed } : State) L mc ms := by
      refine ⟨?_, q2, q3, q4, q5, q6⟩
      obtain ⟨t, ht, -⟩ := State.frames_cons hr
      show ({ U with heap := s₂.heap, slotsUsed := s₂.slotsUsed } : State) = { U.setFrames U.frames with heap := s₂.heap, slotsUsed := s₂.slotsUsed }
      rw [State.setFrames_self ht]
    subst hg
    refine Or.inr ⟨q, ⟨(({ U with heap := s₂.heap, slotsUsed := s₂.slotsUsed } : State).setVm s₂.vm), Ls ++ L, c0 + mc, s0 + ms⟩,
      ⟨X.admits, X.cas, X.clock, X.frames, X.room, X.hears, X.method, X.code, (X.here.setHeapUsed s₂.heap s₂.slotsUsed).setVm hW'.alike, X.tail, State.WarmedH.trans X.warmed hW', X.limits, X.bytes, X.same.trans (hsame.setVm s.vm)⟩,
      ⟨g, mk, s₂, L, E, ce, rfl, rfl, hx, hce, hcv, hcl, rfl, hL, rfl, rfl⟩, ?_⟩
    show Steps p.tables e below _ (((({ U with heap := s₂.heap, slotsUsed := s₂.slotsUsed } : State).setVm s₂.vm).setTop g).pushFrame (.throwing q))
    rw [← hs₂]
    exact hsteps
end Payer
section Calls
variable {p : Program} {l : Launch} {e : Env} {R : Room} {s : State} {m : MethodId} {args : Array Value} {below : List Frame} {meth : Method} {c : Code} {T : State} {locs : List Loc} {cells slots : Nat}
theorem vx_callV (X : Stand p l e R s m args below meth c T locs cells slots) (hexec : p.tables.exec = Jvm.exec) {own C : String} {index : Nat} {y : MethodName} {bytes : ByteArray} {maxL : Nat} {ret : Option FieldType}
    (hown : s.vm.findClass own = some m.cls) (hlink : (Cond.methodLink own index y).before args s = true) (hinst : (Cond.instanceMethod y).before args s = true) (hsel : (Cond.selects C y y).before args s = true)
    (hcode : (Cond.code y bytes maxL ret).before args s = true) (hy : y.cls ≠ "java/lang/invoke/MethodHandle" ∧ y.cls ≠ "java/lang/invoke/VarHandle")
    {W9 : Nat} {Pre : Pt → Array Value → Prop} {Post : Pt → Array Value → Option Value → Pt → Prop} {PostX : Pt → Array Value → Addr → Pt → Prop} (hK : vx_Back l R p e below s args y 3 W9 Pre Post PostX)
    {b : Addr} {cellB : Cell} (hcell : T.heap[b]? = some cellB) (hobj : cellB.vm.isStatics = false) (hcls : s.vm.findClass C = some cellB.cls)
    {g : JFrame} (hg : g.method = m) (hsize : g.locals.size = c.maxLocals) {argsL rest : List Value} (hlen : ∀ sig, parseMethodDescriptor y.desc = some sig → argsL.length = sig.parameters.length)
    (hstack : g.stack = argsL.reverse ++ .ref b :: rest) (hW : 2 * g.monitorRoom + (rest.map fun v => v.category).sum ≤ W9) (hdg : decode c.code g.pc = .ok (.invokevirtual index, 3))
    (hpre : ∀ vm₁, s.WarmedH vm₁ → Pre ⟨T.setVm vm₁, locs, cells, slots⟩ (Value.ref b :: argsL).toArray) :
    (∃ (v : Option Value) (vm₁ : Vm) (B : Pt), s.WarmedH vm₁ ∧ Stand p l e R s m args below meth c B.U B.locs B.cells B.slots ∧ Post ⟨T.setVm vm₁, locs, cells, slots⟩ (Value.ref b :: argsL).toArray v B ∧
      ∀ target, Steps p.tables e below (B.U.setTop { g with pc := g.pc + 3, stack := v.toList ++ rest }) target → Steps p.tables e below (T.setTop g) target) ∨
    (∃ (q : Addr) (vm₁ : Vm) (B : Pt), s.WarmedH vm₁ ∧ Stand p l e R s m args below meth c B.U B.locs B.cells B.slots ∧ PostX ⟨T.setVm vm₁, locs, cells, slots⟩ (Value.ref b :: argsL).toArray q B ∧
      Steps p.tables e below (T.setTop g) ((B.U.setTop { g with stack := rest }).pushFrame (.throwing q))) := by
  obtain ⟨mk, methM, hnamed, hmethM, hstM, habM⟩ := Cond.instanceMethod_spec hinst
  obtain ⟨methM', cM, hmethM', -, -, -, -, -, -, hsigM⟩ := Cond.code_spec hnamed hcode
  cases hmethM.symm.trans hmethM'
  obtain ⟨c2, r2, m2, q1, q2, q3, q4, kP, hkP, hkPi⟩ := Cond.selects_spec hsel
  cases hcls.symm.trans q1
  cases (State.methodFound?_of_named hnamed hy).symm.trans q2
  cases hnamed.symm.trans q3
  have hselP : selectMethod e.platform s.vm cellB.cls mk = .method mk := by rw [Launch.admits_selectMethod X.admits]; exact q4
  obtain ⟨vm₁, X₁, hstep₁⟩ := X.invokevirtual hexec hown hlink hnamed hmethM hstM hkP hkPi hy (a := b) (cell := cellB) hcell
    (fun z h => by rw [h] at hobj; cases hobj) hselP hmethM habM hkP hkPi (g := g) hg (argsL := argsL) (rest := rest) (hlen _ hsigM) hstack hdg
  rcases hK m meth c ⟨T.setVm vm₁, locs, cells, slots⟩ { g with stack := rest } (.invokevirtual index) mk (Value.ref b :: argsL).toArray X₁ hg hsize hdg hW (X₁.named hnamed) (hpre vm₁ X₁.warmed) with ⟨v, B, X', hpost, hsteps⟩ | ⟨q, B, X', hpost, hsteps⟩
  · exact Or.inl ⟨v, vm₁, B, X₁.warmed, X', hpost, fun target h => hstep₁ _ fun acts => by rw [doInvoke_state]; exact hsteps.trans h⟩
  · exact Or.inr ⟨q, vm₁, B, X₁.warmed, X', hpost, hstep₁ _ fun acts => by rw [doInvoke_state]; exact hsteps⟩
theorem vx_callS (X : Stand p l e R s m args below meth c T locs cells slots) (hexec : p.tables.exec = Jvm.exec) {own : String} {index : Nat} {y : MethodName} {bytes : ByteArray} {maxL : Nat} {ret : Option FieldType}
    (hown : s.vm.findClass own = some m.cls) (hlink : (Cond.methodLink own index y).before args s = true) (hstat : (Cond.static y).before args s = true) (hinit : (Cond.initialized y.cls).before args s = true)
    (hcode : (Cond.code y bytes maxL ret).before args s = true) (hy : y.cls ≠ "java/lang/invoke/MethodHandle" ∧ y.cls ≠ "java/lang/invoke/VarHandle")
    {W9 : Nat} {Pre : Pt → Array Value → Prop} {Post : Pt → Array Value → Option Value → Pt → Prop} {PostX : Pt → Array Value → Addr → Pt → Prop} (hK : vx_Back l R p e below s args y 3 W9 Pre Post PostX)
    {g : JFrame} (hg : g.method = m) (hsize : g.locals.size = c.maxLocals) {argsL rest : List Value} (hlen : ∀ sig, parseMethodDescriptor y.desc = some sig → argsL.length = sig.parameters.length)
    (hstack : g.stack = argsL.reverse ++ rest) (hW : 2 * g.monitorRoom + (rest.map fun v => v.category).sum ≤ W9) (hdg : decode c.code g.pc = .ok (.invokestatic index, 3))
    (hpre : ∀ vm₁, s.WarmedH vm₁ → Pre ⟨T.setVm vm₁, locs, cells, slots⟩ argsL.toArray) :
    (∃ (v : Option Value) (vm₁ : Vm) (B : Pt), s.WarmedH vm₁ ∧ Stand p l e R s m args below meth c B.U B.locs B.cells B.slots ∧ Post ⟨T.setVm vm₁, locs, cells, slots⟩ argsL.toArray v B ∧
      ∀ target, Steps p.tables e below (B.U.setTop { g with pc := g.pc + 3, stack := v.toList ++ rest }) target → Steps p.tables e below (T.setTop g) target) ∨
    (∃ (q : Addr) (vm₁ : Vm) (B : Pt), s.WarmedH vm₁ ∧ Stand p l e R s m args below meth c B.U B.locs B.cells B.slots ∧ PostX ⟨T.setVm vm₁, locs, cells, slots⟩ argsL.toArray q B ∧
      Steps p.tables e below (T.setTop g) ((B.U.setTop { g with stack := rest }).pushFrame (.throwing q))) := by
  obtain ⟨mk, hnamed⟩ := Cond.code_named hcode
  obtain ⟨methM, cM, hmethM, -, -, -, -, -, -, hsigM⟩ := Cond.code_spec hnamed hcode
  have hstatic : methM.isStatic = true := Cond.static_spec hnamed hmethM hstat
  obtain ⟨kP, hkP, -⟩ := className_of_methodNamed hnamed
  have hinitP : kP.init = .initialized := Cond.initialized_spec (findClass_of_methodNamed hnamed) hkP hinit
  obtain ⟨vm₁, X₁, hstep₁⟩ := X.invokestatic hexec hown hlink hnamed hmethM hstatic hkP hinitP hy (g := g) hg (argsL := argsL) (rest := rest) (hlen _ hsigM) hstack hdg
  rcases hK m meth c ⟨T.setVm vm₁, locs, cells, slots⟩ { g with stack := rest } (.invokestatic index) mk argsL.toArray X₁ hg hsize hdg hW (X₁.named hnamed) (hpre vm₁ X₁.warmed) with ⟨v, B, X', hpost, hsteps⟩ | ⟨q, B, X', hpost, hsteps⟩
  · exact Or.inl ⟨v, vm₁, B, X₁.warmed, X', hpost, fun target h => hstep₁ _ fun acts => by rw [doInvoke_state]; exact hsteps.trans h⟩
  · exact Or.inr ⟨q, vm₁, B, X₁.warmed, X', hpost, hstep₁ _ fun acts => by rw [doInvoke_state]; exact hsteps⟩
end Calls
theorem vx_cls {s : State} {T : State} {vm₁ : Vm} {E : String} {k : ClassId} (hW : s.WarmedH vm₁) (h : (T.setVm vm₁).vm.findClass E = some k) : s.vm.findClass E = some k := by
  have h1 : vm₁.findClass E = some k := h
  rw [hW.alike.findClass] at h1
  exact h1
/-- the method's frame g, with q thrown over it -/
def vx_W (p : Program) (l : Launch) (e : Env) (R : Room) (s : State) (m : MethodId) (args : Array Value) (below : List Frame) (meth : Method) (c : Code) (H : Heap) (locs : List Loc) (cells slots : Nat) (Q : State → Prop) (g : JFrame) (q : Addr) : Prop :=
  ∀ T : State, T.heap = H → Stand p l e R s m args below meth c T locs cells slots → ∃ t, Steps p.tables e below ((T.setTop g).pushFrame (.throwing q)) t ∧ Q t
def vx_Run (p : Program) (l : Launch) (e : Env) (R : Room) (s : State) (m : MethodId) (args : Array Value) (below : List Frame) (meth : Method) (c : Code) (H : Heap) (locs : List Loc) (cells slots mc ms : Nat) (g : JFrame) (rest : List Value) (Qa : State → Outcome → State → Prop) (XC : String → State → State → Prop) (free : Addr → Prop) : Prop :=
  ∀ T : State, T.heap = H → Stand p l e R s m args below meth c T locs cells slots →
    (∃ (v : Option Value) (st₀ t T' : State) (L : List Loc), st₀.heap = H ∧ Stand p l e R s m args below meth c T' (locs ++ L) (cells + mc) (slots + ms) ∧ (∀ q ∈ L, free q.base) ∧ T'.heap = t.heap ∧ T'.vm = t.vm ∧ Qa st₀ (.returned v) t ∧
      Goes p e below T g T' { g with pc := g.pc + 3, stack := v.toList ++ rest }) ∨
    (∃ (q : Addr) (st₀ t T' : State) (L : List Loc) (E : String) (ce : Cell), st₀.heap = H ∧ Stand p l e R s m args below meth c T' (locs ++ L) (cells + mc) (slots + ms) ∧ (∀ z ∈ L, free z.base) ∧ T'.heap = t.heap ∧ T'.vm = t.vm ∧ XC E st₀ t ∧ t.heap[q]? = some ce ∧ ce.vm = .none ∧ s.vm.findClass E = some ce.cls ∧
      Steps p.tables e below (T.setTop g) ((T'.setTop { g with stack := rest }).pushFrame (.throwing q)))
def vx_X {S : Type} (px : S → Prop) (B : String → S → State → Prop) (A : Nat → Prop) : String → State → State → Prop := fun E st t => ∃ u : S, px u ∧ B E u t ∧ va_F A st t
section Runs
variable {p : Program} {l : Launch} {e : Env} {R : Room} {s : State} {m : MethodId} {args : Array Value} {below : List Frame} {meth : Method} {c : Code} {H : Heap} {locs : List Loc} {cells slots : Nat}
variable {y : MethodName} {bytes cc : ByteArray} {maxL nL mc ms n index : Nat} {ret : Option FieldType} {ws : List Cond} {rm : Room} {Pc : Array Value → State → Prop} {Qc : Array Value → State → Outcome → State → Prop} {XC : String → State → State → Prop} {free : Addr → Prop} {Ts : List Cond} {own C : String} {b : Addr} {As rest : List Value} {g : JFrame}
theorem vx_callBack (cb : CallB R s args own index y bytes maxL ret ws rm mc ms n) (hM : vx_Met l y ws rm Pc Qc XC mc ms free) (hbl : FrameBlind Pc) : vx_Back l R p e below s args y 3 8 (PreOf R mc ms Pc) (PostOf Qc mc ms free) (vx_Post XC mc ms free) := by
  obtain ⟨hrc, hrs, hfr, hlo, hws, hcw, -, hini, -⟩ := cb
  exact vx_back (bytes := bytes) (maxL := maxL) (ret := ret) hM hbl hrc hrs hfr hlo hws hcw (fun a' U hW => word_at hW (Or.inl (by first | rfl | simp [Cond.onTables, Cond.keeps, Cond.steady])) hini)
theorem vx_runV (S : CallFix p m c cc nL s args Ts own) (hM : vx_Met l y ws rm Pc Qc XC mc ms free) (cw : CallW R s args own C index y bytes maxL ret ws rm mc ms n) (hp : PreV s H C b Pc As)
    (hg : g.method = m) (hn : As.length = n) (hsize : g.locals.size = nL) (hstack : g.stack = As.reverse ++ .ref b :: rest) (hW : 2 * g.monitorRoom + (rest.map fun v => v.category).sum ≤ 8) (hdg : decode cc g.pc = .ok (.invokevirtual index, 3)) (hf : cells + mc ≤ R.cells ∧ slots + ms ≤ R.slots) :
    vx_Run p l e R s m args below meth c H locs cells slots mc ms g rest (Qc (Value.ref b :: As).toArray) XC free := by
  have hK : vx_Back l R p e below s args y 3 8 (PreOf R mc ms Pc) (PostOf Qc mc ms free) (vx_Post XC mc ms free) := vx_callBack cw.1 hM hp.1
  obtain ⟨⟨-, -, -, -, -, -, hcode, -, hy, hlen, hl⟩, hin, hse⟩ := cw
  obtain ⟨hx, hb, hml, ho, -⟩ := S
  obtain ⟨-, ⟨cellB, hcB, hoB, hclB⟩, hPc⟩ := hp
  intro T hT X
  rcases vx_callV X hx (C := C) (bytes := bytes) (maxL := maxL) (ret := ret) ho hl hin hse hcode hy hK (by rw [hT]; exact hcB) hoB hclB hg (hsize.trans hml.symm) (argsL := As) (rest := rest) (fun sig h => hn.trans (hlen sig h)) hstack hW (by rw [hb]; exact hdg)
    (fun vm₁ hW₁ => ⟨hf.1, hf.2, hPc (T.setVm vm₁) hT hW₁⟩) with ⟨v, vm₁, ⟨U', l2, c2, s2⟩, hW₁, X', ⟨g', mk, t, L, e1, e2, hq, h1, hL, h2, h3⟩, st⟩ | ⟨q, vm₁, ⟨U', l2, c2, s2⟩, hW₁, X', ⟨g', mk, t, L, E, ce, e1, e2, hq, hce, hcv, hcl, h1, hL, h2, h3⟩, st⟩
  · dsimp only [Pt.U, Pt.locs, Pt.cells, Pt.slots] at X' e1 e2 h1 h2 h3 st
    subst h1; subst h2; subst h3
    exact Or.inl ⟨v, (T.setVm vm₁).calling g' mk (Value.ref b :: As).toArray, t, U', L, hT, X', hL, e1, e2, hq, st⟩
  · dsimp only [Pt.U, Pt.locs, Pt.cells, Pt.slots] at X' e1 e2 h1 h2 h3 st hcl
    subst h1; subst h2; subst h3
    exact Or.inr ⟨q, (T.setVm vm₁).calling g' mk (Value.ref b :: As).toArray, t, U', L, E, ce, hT, X', hL, e1, e2, hq, hce, hcv, vx_cls hW₁ hcl, st⟩
theorem vx_runS (S : CallFix p m c cc nL s args Ts own) (hM : vx_Met l y ws rm Pc Qc XC mc ms free) (cw : CallB R s args own index y bytes maxL ret ws rm mc ms n ∧ (Cond.static y).before args s = true) (hp : PreS s H Pc As)
    (hg : g.method = m) (hn : As.length = n) (hsize : g.locals.size = nL) (hstack : g.stack = As.reverse ++ rest) (hW : 2 * g.monitorRoom + (rest.map fun v => v.category).sum ≤ 8) (hdg : decode cc g.pc = .ok (.invokestatic index, 3)) (hf : cells + mc ≤ R.cells ∧ slots + ms ≤ R.slots) :
    vx_Run p l e R s m args below meth c H locs cells slots mc ms g rest (Qc As.toArray) XC free := by
  have hK : vx_Back l R p e below s args y 3 8 (PreOf R mc ms Pc) (PostOf Qc mc ms free) (vx_Post XC mc ms free) := vx_callBack cw.1 hM hp.1
  obtain ⟨⟨-, -, -, -, -, -, hcode, hini, hy, hlen, hl⟩, hstt⟩ := cw
  obtain ⟨hx, hb, hml, ho, -⟩ := S
  intro T hT X
  rcases vx_callS X hx (bytes := bytes) (maxL := maxL) (ret := ret) ho hl hstt hini hcode hy hK hg (hsize.trans hml.symm) (argsL := As) (rest := rest) (fun sig h => hn.trans (hlen sig h)) hstack hW (by rw [hb]; exact hdg)
    (fun vm₁ hW₁ => ⟨hf.1, hf.2, hp.2 (T.setVm vm₁) hT hW₁⟩) with ⟨v, vm₁, ⟨U', l2, c2, s2⟩, hW₁, X', ⟨g', mk, t, L, e1, e2, hq, h1, hL, h2, h3⟩, st⟩ | ⟨q, vm₁, ⟨U', l2, c2, s2⟩, hW₁, X', ⟨g', mk, t, L, E, ce, e1, e2, hq, hce, hcv, hcl, h1, hL, h2, h3⟩, st⟩
  · dsimp only [Pt.U, Pt.locs, Pt.cells, Pt.slots] at X' e1 e2 h1 h2 h3 st
    subst h1; subst h2; subst h3
    exact Or.inl ⟨v, (T.setVm vm₁).calling g' mk As.toArray, t, U', L, hT, X', hL, e1, e2, hq, st⟩
  · dsimp only [Pt.U, Pt.locs, Pt.cells, Pt.slots] at X' e1 e2 h1 h2 h3 st hcl
    subst h1; subst h2; subst h3
    exact Or.inr ⟨q, (T.setVm vm₁).calling g' mk As.toArray, t, U', L, E, ce, hT, X', hL, e1, e2, hq, hce, hcv, vx_cls hW₁ hcl, st⟩
end Runs
section Rows
variable {p : Program} {l : Launch} {e : Env} {R : Room} {s : State} {m : MethodId} {args : Array Value} {below : List Frame} {meth : Method} {c : Code} {H : Heap} {locs : List Loc} {cells slots : Nat} {Q : State → Prop}
variable {mc ms : Nat} {free : Addr → Prop} {A0 A1 : Nat → Prop} {H0 : Heap} {a : Array Value} {pc : Nat} {ls : Array Slot} {st0 rest : List Value}
theorem vx_keep {st₀ t T' : State} {L : List Loc} (h0 : st₀.heap = H) (e1 : T'.heap = t.heap) (hS : va_S A0 H0 H locs) (hA : ∀ q, q < H.size → A1 q → A0 q) (hf : ∀ q, free q → A0 q) (hL : ∀ q ∈ L, free q.base) (hF : va_F A1 st₀ t) :
    H.size ≤ T'.heap.size ∧ (∀ q : Nat, q < H.size → ¬ A1 q → T'.heap[q]? = H[q]?) ∧ va_S A0 H0 T'.heap (locs ++ L) := by
  obtain ⟨hz, hk⟩ := hF
  rw [h0] at hz hk
  exact ⟨by rw [e1]; exact hz, fun q h1 h2 => by rw [e1]; exact hk q h1 h2,
    ⟨Nat.le_trans hS.1 (by rw [e1]; exact hz), fun q h1 h2 => by rw [e1, hk q (Nat.lt_of_lt_of_le h1 hS.1) (fun z => h2 (hA q (Nat.lt_of_lt_of_le h1 hS.1) z))]; exact hS.2.1 q h1 h2, fun q hq => by
      rcases List.mem_append.mp hq with h | h
      · exact hS.2.2 q h
      · exact hf _ (hL q h)⟩⟩
theorem vx_calli {S SX : Type} {post : Int32 → S → Prop} {px : SX → Prop} {B : S → State → Prop} {BX : String → SX → State → Prop} {AX : Nat → Prop} (hr : vx_Run p l e R s m args below meth c H locs cells slots mc ms (F0 m pc ls st0) rest (va_Qi post B A1 a) (vx_X px BX AX) free) (hS : va_S A0 H0 H locs) (hA : ∀ q, q < H.size → A1 q → A0 q) (hf : ∀ q, free q → A0 q) (hAX : ∀ q, q < H.size → AX q → A0 q)
    (kx : ∀ (E : String) (ce : Cell) (q9 : Addr) (u : SX) (t : State) (H1 : Heap) (locs1 : List Loc), t.heap = H1 → s.vm.Alike t.vm → px u → BX E u t → H.size ≤ H1.size → (∀ q : Nat, q < H.size → ¬ AX q → H1[q]? = H[q]?) → va_S A0 H0 H1 locs1 → H1[q9]? = some ce → ce.vm = .none → s.vm.findClass E = some ce.cls → vx_W p l e R s m args below meth c H1 locs1 (cells + mc) (slots + ms) Q (F0 m pc ls rest) q9)
    (kk : ∀ (r : Int32) (u : S) (t : State) (H1 : Heap) (locs1 : List Loc), t.heap = H1 → s.vm.Alike t.vm → post r u → B u t → H.size ≤ H1.size → (∀ q : Nat, q < H.size → ¬ A1 q → H1[q]? = H[q]?) → va_S A0 H0 H1 locs1 → W p l e R s m args below meth c H1 locs1 (cells + mc) (slots + ms) Q (F0 m (pc + 3) ls (.int r :: rest))) : W p l e R s m args below meth c H locs cells slots Q (F0 m pc ls st0) := by
  intro T hT X
  rcases hr T hT X with ⟨v, st₀, t, T', L, h0, X', hL, e1, e2, ⟨⟨r, u, hv, hp, hb⟩, hF⟩, st⟩ | ⟨q, st₀, t, T', L, E, ce, h0, X', hL, e1, e2, ⟨u, hp, hb, hF⟩, hce, hcv, hcl, st⟩
  · cases hv
    obtain ⟨k1, k2, k3⟩ := vx_keep h0 e1 hS hA hf hL hF
    obtain ⟨t2, a1, b1⟩ := kk r u t T'.heap (locs ++ L) e1.symm (by rw [← e2]; exact X'.warmed.alike) hp hb k1 k2 k3 T' rfl X'
    exact ⟨t2, st t2 a1, b1⟩
  · obtain ⟨k1, k2, k3⟩ := vx_keep h0 e1 hS hAX hf hL hF
    obtain ⟨t2, a1, b1⟩ := kx E ce q u t T'.heap (locs ++ L) e1.symm (by rw [← e2]; exact X'.warmed.alike) hp hb k1 k2 k3 (by rw [e1]; exact hce) hcv hcl T' rfl X'
    exact ⟨t2, st.trans a1, b1⟩
theorem vx_calll {S SX : Type} {post : Int64 → S → Prop} {px : SX → Prop} {B : S → State → Prop} {BX : String → SX → State → Prop} {AX : Nat → Prop} (hr : vx_Run p l e R s m args below meth c H locs cells slots mc ms (F0 m pc ls st0) rest (va_Ql post B A1 a) (vx_X px BX AX) free) (hS : va_S A0 H0 H locs) (hA : ∀ q, q < H.size → A1 q → A0 q) (hf : ∀ q, free q → A0 q) (hAX : ∀ q, q < H.size → AX q → A0 q)
    (kx : ∀ (E : String) (ce : Cell) (q9 : Addr) (u : SX) (t : State) (H1 : Heap) (locs1 : List Loc), t.heap = H1 → s.vm.Alike t.vm → px u → BX E u t → H.size ≤ H1.size → (∀ q : Nat, q < H.size → ¬ AX q → H1[q]? = H[q]?) → va_S A0 H0 H1 locs1 → H1[q9]? = some ce → ce.vm = .none → s.vm.findClass E = some ce.cls → vx_W p l e R s m args below meth c H1 locs1 (cells + mc) (slots + ms) Q (F0 m pc ls rest) q9)
    (kk : ∀ (r : Int64) (u : S) (t : State) (H1 : Heap) (locs1 : List Loc), t.heap = H1 → s.vm.Alike t.vm → post r u → B u t → H.size ≤ H1.size → (∀ q : Nat, q < H.size → ¬ A1 q → H1[q]? = H[q]?) → va_S A0 H0 H1 locs1 → W p l e R s m args below meth c H1 locs1 (cells + mc) (slots + ms) Q (F0 m (pc + 3) ls (.long r :: rest))) : W p l e R s m args below meth c H locs cells slots Q (F0 m pc ls st0) := by
  intro T hT X
  rcases hr T hT X with ⟨v, st₀, t, T', L, h0, X', hL, e1, e2, ⟨⟨r, u, hv, hp, hb⟩, hF⟩, st⟩ | ⟨q, st₀, t, T', L, E, ce, h0, X', hL, e1, e2, ⟨u, hp, hb, hF⟩, hce, hcv, hcl, st⟩
  · cases hv
    obtain ⟨k1, k2, k3⟩ := vx_keep h0 e1 hS hA hf hL hF
    obtain ⟨t2, a1, b1⟩ := kk r u t T'.heap (locs ++ L) e1.symm (by rw [← e2]; exact X'.warmed.alike) hp hb k1 k2 k3 T' rfl X'
    exact ⟨t2, st t2 a1, b1⟩
  · obtain ⟨k1, k2, k3⟩ := vx_keep h0 e1 hS hAX hf hL hF
    obtain ⟨t2, a1, b1⟩ := kx E ce q u t T'.heap (locs ++ L) e1.symm (by rw [← e2]; exact X'.warmed.alike) hp hb k1 k2 k3 (by rw [e1]; exact hce) hcv hcl T' rfl X'
    exact ⟨t2, st.trans a1, b1⟩
theorem vx_callf {S SX : Type} {post : UInt32 → S → Prop} {px : SX → Prop} {B : S → State → Prop} {BX : String → SX → State → Prop} {AX : Nat → Prop} (hr : vx_Run p l e R s m args below meth c H locs cells slots mc ms (F0 m pc ls st0) rest (va_Qf post B A1 a) (vx_X px BX AX) free) (hS : va_S A0 H0 H locs) (hA : ∀ q, q < H.size → A1 q → A0 q) (hf : ∀ q, free q → A0 q) (hAX : ∀ q, q < H.size → AX q → A0 q)
    (kx : ∀ (E : String) (ce : Cell) (q9 : Addr) (u : SX) (t : State) (H1 : Heap) (locs1 : List Loc), t.heap = H1 → s.vm.Alike t.vm → px u → BX E u t → H.size ≤ H1.size → (∀ q : Nat, q < H.size → ¬ AX q → H1[q]? = H[q]?) → va_S A0 H0 H1 locs1 → H1[q9]? = some ce → ce.vm = .none → s.vm.findClass E = some ce.cls → vx_W p l e R s m args below meth c H1 locs1 (cells + mc) (slots + ms) Q (F0 m pc ls rest) q9)
    (kk : ∀ (r : UInt32) (u : S) (t : State) (H1 : Heap) (locs1 : List Loc), t.heap = H1 → s.vm.Alike t.vm → post r u → B u t → H.size ≤ H1.size → (∀ q : Nat, q < H.size → ¬ A1 q → H1[q]? = H[q]?) → va_S A0 H0 H1 locs1 → W p l e R s m args below meth c H1 locs1 (cells + mc) (slots + ms) Q (F0 m (pc + 3) ls (.float r :: rest))) : W p l e R s m args below meth c H locs cells slots Q (F0 m pc ls st0) := by
  intro T hT X
  rcases hr T hT X with ⟨v, st₀, t, T', L, h0, X', hL, e1, e2, ⟨⟨r, u, hv, hp, hb⟩, hF⟩, st⟩ | ⟨q, st₀, t, T', L, E, ce, h0, X', hL, e1, e2, ⟨u, hp, hb, hF⟩, hce, hcv, hcl, st⟩
  · cases hv
    obtain ⟨k1, k2, k3⟩ := vx_keep h0 e1 hS hA hf hL hF
    obtain ⟨t2, a1, b1⟩ := kk r u t T'.heap (locs ++ L) e1.symm (by rw [← e2]; exact X'.warmed.alike) hp hb k1 k2 k3 T' rfl X'
    exact ⟨t2, st t2 a1, b1⟩
  · obtain ⟨k1, k2, k3⟩ := vx_keep h0 e1 hS hAX hf hL hF
    obtain ⟨t2, a1, b1⟩ := kx E ce q u t T'.heap (locs ++ L) e1.symm (by rw [← e2]; exact X'.warmed.alike) hp hb k1 k2 k3 (by rw [e1]; exact hce) hcv hcl T' rfl X'
    exact ⟨t2, st.trans a1, b1⟩
theorem vx_calld {S SX : Type} {post : UInt64 → S → Prop} {px : SX → Prop} {B : S → State → Prop} {BX : String → SX → State → Prop} {AX : Nat → Prop} (hr : vx_Run p l e R s m args below meth c H locs cells slots mc ms (F0 m pc ls st0) rest (va_Qd post B A1 a) (vx_X px BX AX) free) (hS : va_S A0 H0 H locs) (hA : ∀ q, q < H.size → A1 q → A0 q) (hf : ∀ q, free q → A0 q) (hAX : ∀ q, q < H.size → AX q → A0 q)
    (kx : ∀ (E : String) (ce : Cell) (q9 : Addr) (u : SX) (t : State) (H1 : Heap) (locs1 : List Loc), t.heap = H1 → s.vm.Alike t.vm → px u → BX E u t → H.size ≤ H1.size → (∀ q : Nat, q < H.size → ¬ AX q → H1[q]? = H[q]?) → va_S A0 H0 H1 locs1 → H1[q9]? = some ce → ce.vm = .none → s.vm.findClass E = some ce.cls → vx_W p l e R s m args below meth c H1 locs1 (cells + mc) (slots + ms) Q (F0 m pc ls rest) q9)
    (kk : ∀ (r : UInt64) (u : S) (t : State) (H1 : Heap) (locs1 : List Loc), t.heap = H1 → s.vm.Alike t.vm → post r u → B u t → H.size ≤ H1.size → (∀ q : Nat, q < H.size → ¬ A1 q → H1[q]? = H[q]?) → va_S A0 H0 H1 locs1 → W p l e R s m args below meth c H1 locs1 (cells + mc) (slots + ms) Q (F0 m (pc + 3) ls (.double r :: rest))) : W p l e R s m args below meth c H locs cells slots Q (F0 m pc ls st0) := by
  intro T hT X
  rcases hr T hT X with ⟨v, st₀, t, T', L, h0, X', hL, e1, e2, ⟨⟨r, u, hv, hp, hb⟩, hF⟩, st⟩ | ⟨q, st₀, t, T', L, E, ce, h0, X', hL, e1, e2, ⟨u, hp, hb, hF⟩, hce, hcv, hcl, st⟩
  · cases hv
    obtain ⟨k1, k2, k3⟩ := vx_keep h0 e1 hS hA hf hL hF
    obtain ⟨t2, a1, b1⟩ := kk r u t T'.heap (locs ++ L) e1.symm (by rw [← e2]; exact X'.warmed.alike) hp hb k1 k2 k3 T' rfl X'
    exact ⟨t2, st t2 a1, b1⟩
  · obtain ⟨k1, k2, k3⟩ := vx_keep h0 e1 hS hAX hf hL hF
    obtain ⟨t2, a1, b1⟩ := kx E ce q u t T'.heap (locs ++ L) e1.symm (by rw [← e2]; exact X'.warmed.alike) hp hb k1 k2 k3 (by rw [e1]; exact hce) hcv hcl T' rfl X'
    exact ⟨t2, st.trans a1, b1⟩
theorem vx_callv {S SX : Type} {post : S → Prop} {px : SX → Prop} {B : S → State → Prop} {BX : String → SX → State → Prop} {AX : Nat → Prop} (hr : vx_Run p l e R s m args below meth c H locs cells slots mc ms (F0 m pc ls st0) rest (va_Qv post B A1 a) (vx_X px BX AX) free) (hS : va_S A0 H0 H locs) (hA : ∀ q, q < H.size → A1 q → A0 q) (hf : ∀ q, free q → A0 q) (hAX : ∀ q, q < H.size → AX q → A0 q)
    (kx : ∀ (E : String) (ce : Cell) (q9 : Addr) (u : SX) (t : State) (H1 : Heap) (locs1 : List Loc), t.heap = H1 → s.vm.Alike t.vm → px u → BX E u t → H.size ≤ H1.size → (∀ q : Nat, q < H.size → ¬ AX q → H1[q]? = H[q]?) → va_S A0 H0 H1 locs1 → H1[q9]? = some ce → ce.vm = .none → s.vm.findClass E = some ce.cls → vx_W p l e R s m args below meth c H1 locs1 (cells + mc) (slots + ms) Q (F0 m pc ls rest) q9)
    (kk : ∀ (u : S) (t : State) (H1 : Heap) (locs1 : List Loc), t.heap = H1 → s.vm.Alike t.vm → post u → B u t → H.size ≤ H1.size → (∀ q : Nat, q < H.size → ¬ A1 q → H1[q]? = H[q]?) → va_S A0 H0 H1 locs1 → W p l e R s m args below meth c H1 locs1 (cells + mc) (slots + ms) Q (F0 m (pc + 3) ls (rest))) : W p l e R s m args below meth c H locs cells slots Q (F0 m pc ls st0) := by
  intro T hT X
  rcases hr T hT X with ⟨v, st₀, t, T', L, h0, X', hL, e1, e2, ⟨⟨u, hv, hp, hb⟩, hF⟩, st⟩ | ⟨q, st₀, t, T', L, E, ce, h0, X', hL, e1, e2, ⟨u, hp, hb, hF⟩, hce, hcv, hcl, st⟩
  · cases hv
    obtain ⟨k1, k2, k3⟩ := vx_keep h0 e1 hS hA hf hL hF
    obtain ⟨t2, a1, b1⟩ := kk u t T'.heap (locs ++ L) e1.symm (by rw [← e2]; exact X'.warmed.alike) hp hb k1 k2 k3 T' rfl X'
    exact ⟨t2, st t2 a1, b1⟩
  · obtain ⟨k1, k2, k3⟩ := vx_keep h0 e1 hS hAX hf hL hF
    obtain ⟨t2, a1, b1⟩ := kx E ce q u t T'.heap (locs ++ L) e1.symm (by rw [← e2]; exact X'.warmed.alike) hp hb k1 k2 k3 (by rw [e1]; exact hce) hcv hcl T' rfl X'
    exact ⟨t2, st.trans a1, b1⟩
end Rows
section Ends
variable {p : Program} {l : Launch} {e : Env} {R : Room} {s : State} {m : MethodId} {args : Array Value} {below : List Frame} {meth : Method} {c : Code} {H : Heap} {locs : List Loc} {cells slots : Nat} {Q : State → Prop}
variable {mc ms : Nat} {free : Addr → Prop} {A0 A1 : Nat → Prop} {H0 : Heap} {a : Array Value} {ls : Array Slot} {st0 rest : List Value}
variable {Qc : Array Value → State → Outcome → State → Prop} {XC : String → State → State → Prop}
/-- what a body that may throw owes at its end -/
def vx_MQ (below : List Frame) (Qc : Array Value → State → Outcome → State → Prop) (XC : String → State → State → Prop) (a : Array Value) (s : State) (mc ms : Nat) (free : Addr → Prop) : State → Prop := fun t =>
  ∃ o, t.status = .running ∧ Ended t below o ∧ vx_Q Qc XC mc ms free a s o t
theorem vx_ret {g : JFrame} {mc ms : Nat} (k : W p l e R s m args below meth c H locs cells slots (MQ below Qc args s mc ms free) g) : W p l e R s m args below meth c H locs cells slots (vx_MQ below Qc XC args s mc ms free) g := by
  intro T hT X
  obtain ⟨t, a1, o, b1, b2, b3, b4⟩ := k T hT X
  exact ⟨t, a1, o, b1, b2, Or.inl ⟨b3, b4⟩⟩
/-- not caught here: it goes on to the caller -/
theorem vx_widen {g : JFrame} {q : Addr} {k n : Nat} (h1 : cells ≤ k) (h2 : slots ≤ n) (kk : vx_W p l e R s m args below meth c H locs k n Q g q) : vx_W p l e R s m args below meth c H locs cells slots Q g q := fun T hT X => kk T hT (stand_widen X h1 h2)
theorem vx_out {pc : Nat} {E : String} {ce : Cell} {q : Addr} {mc ms : Nat} (hout : ∀ x ∈ c.exceptionTable.toList, covers x pc = false) (hlocks : meth.locks = false) (hcell : H[q]? = some ce) (hv : ce.vm = .none) (hcl : s.vm.findClass E = some ce.cls)
    (hx : ∀ t : State, t.heap = H → s.vm.Alike t.vm → XC E s t) (hf : ∀ z ∈ locs, free z.base) (hc : cells ≤ mc) (hs : slots ≤ ms) :
    vx_W p l e R s m args below meth c H locs cells slots (vx_MQ below Qc XC args s mc ms free) (F0 m pc ls rest) q := by
  intro T hT X
  obtain ⟨st1, hrun, hend, hW, hsm⟩ := X.leaveThrown q (g := F0 m pc ls rest) rfl rfl rfl hout hlocks
  have hcell9 : (T.setFrames (.throwing q :: below)).heap[q]? = some ce := by
    show T.heap[q]? = some ce
    rw [hT]; exact hcell
  exact ⟨_, st1, .threw q, hrun, hend, Or.inr ⟨q, rfl, E, ce, locs, hx _ hT hW.alike, hcell9, hv, hcl, hW, hsm.mono hc hs, hf⟩⟩
theorem vx_frame {U : State} {k n : Nat} (h : s.sameButNew ({ U with vm := s.vm } : State) locs k n) : s.heap.size ≤ U.heap.size ∧ ∀ q : Nat, q < s.heap.size → (∀ z ∈ locs, z.base ≠ q) → U.heap[q]? = s.heap[q]? := by
  obtain ⟨-, h2, -, -, -, h6⟩ := h
  refine ⟨h2, fun q hq hz => ?_⟩
  obtain ⟨c9, e1, e2, e3, e4⟩ := h6 q _ (Array.getElem?_eq_getElem hq)
  have hs : c9.slots = (s.heap[q]).slots := Array.ext_getElem? fun i => e4 i fun hm => hz _ hm rfl
  have h9 : c9 = s.heap[q] := by
    rw [hs] at e2
    exact e2
  have e5 : U.heap[q]? = some c9 := e1
  rw [e5, h9, Array.getElem?_eq_getElem hq]
/-- the words of a throw but the four that speak of the heap -/
def vx_no (w : Cond) : Bool := decide (w ≠ .isRef (.static Bundle.tN "UNASSIGNED_STACK" Bundle.steD)) && decide (w ≠ .isRef (.static Bundle.tN "SUPPRESSED_SENTINEL" Bundle.listD)) && decide (w ≠ .laysStatic Bundle.tN "UNASSIGNED_STACK" Bundle.steD) && decide (w ≠ .laysStatic Bundle.tN "SUPPRESSED_SENTINEL" Bundle.listD)
def vx_at0 (own : String) (ic : Nat) (X : String) (names : List String) : List Cond := (Bundle.ownAtoms0 own ic X names).filter vx_no
def vx_atS (own : String) (ic : Nat) (X : String) (names : List String) : List Cond := (Bundle.ownAtoms own ic X names).filter vx_no
/-- a word that the tables alone decide, or a good one -/
def vx_ot (w : Cond) : Bool := w.onTables || goodWord w
theorem vx_ot_at {args a' : Array Value} {s U : State} {w : Cond} (hW : s.WarmedH U.vm) (hvm : s.vm = U.vm) (hg : vx_ot w = true) (h : w.before args s = true) : w.before a' U = true := by
  simp only [vx_ot, Bool.or_eq_true] at hg
  rcases hg with hg | hg
  · exact va_tabs hg hvm h
  · exact word_at hW (good_of_word hg) h
/-- a list's words: the good ones out of the method's own list, the others by premises of their own -/
theorem vx_hat {args : Array Value} {s : State} {L B : List Cond} (h1 : ∀ w ∈ L.filter goodWord, w.before args s = true) (h2 : ∀ w ∈ L.filter (fun w => !goodWord w), w ∈ B) (h3 : ∀ w ∈ B, w.before args s = true) : ∀ w ∈ L, w.before args s = true := by
  intro w hw
  by_cases g : goodWord w = true
  · exact h1 w (List.mem_filter.mpr ⟨hw, g⟩)
  · refine h3 w (h2 w (List.mem_filter.mpr ⟨hw, ?_⟩))
    show (!goodWord w) = true
    cases hgw : goodWord w
    · rfl
    · exact absurd hgw g
theorem vx_c {args : Array Value} {s : State} {w : Cond} {B : List Cond} (h : w.before args s = true) (t : ∀ w ∈ B, w.before args s = true) : ∀ w' ∈ w :: B, w'.before args s = true := fun w' h' => (List.mem_cons.mp h').elim (fun e => by rw [e]; exact h) (t w')
theorem vx_n {args : Array Value} {s : State} : ∀ w ∈ ([] : List Cond), w.before args s = true := fun _ h => nomatch h
theorem vx_own {args : Array Value} {s : State} {L : List Cond} (h1 : ∀ w ∈ L.filter vx_no, w.before args s = true)
    (hU : (Cond.isRef (.static Bundle.tN "UNASSIGNED_STACK" Bundle.steD)).before args s = true) (hN : (Cond.isRef (.static Bundle.tN "SUPPRESSED_SENTINEL" Bundle.listD)).before args s = true)
    (lU : (Cond.laysStatic Bundle.tN "UNASSIGNED_STACK" Bundle.steD).before args s = true) (lN : (Cond.laysStatic Bundle.tN "SUPPRESSED_SENTINEL" Bundle.listD).before args s = true) : ∀ w ∈ L, w.before args s = true := by
  intro w hw
  by_cases e1 : w = .isRef (.static Bundle.tN "UNASSIGNED_STACK" Bundle.steD)
  · rw [e1]; exact hU
  · by_cases e2 : w = .isRef (.static Bundle.tN "SUPPRESSED_SENTINEL" Bundle.listD)
    · rw [e2]; exact hN
    · by_cases e3 : w = .laysStatic Bundle.tN "UNASSIGNED_STACK" Bundle.steD
      · rw [e3]; exact lU
      · by_cases e4 : w = .laysStatic Bundle.tN "SUPPRESSED_SENTINEL" Bundle.listD
        · rw [e4]; exact lN
        · exact h1 w (List.mem_filter.mpr ⟨hw, by unfold vx_no; rw [decide_eq_true e1, decide_eq_true e2, decide_eq_true e3, decide_eq_true e4]; rfl⟩)
/-- where a static field lies, its class's statics cell in H -/
def vx_L (C n d : String) (A : Nat → Prop) (U : State) (H : Heap) : Prop := ∃ (c : ClassId) (k : Class) (i : Nat) (f : Field) (a : Nat) (cell : Cell), U.vm.findClass C = some c ∧ U.fieldFound? C n d = some (c, k, i, f) ∧ f.isStatic = true ∧ k.statics = some a ∧ H[a]? = some cell ∧ cell.vm.isStatics = true ∧ cell.cls = c ∧ f.slot < cell.slots.size ∧ k.staticTypes[f.slot]? = some f.type ∧ ¬ A a
theorem vx_L.moved {C n d : String} {A : Nat → Prop} {u U : State} {H : Heap} (hvm : u.vm.Alike U.vm) (h : vx_L C n d A u H) : vx_L C n d A U H := by
  obtain ⟨c, k, i, f, a, cell, h1, h2, h3, h4, h5, h6, h7, h8, h9, h10⟩ := h
  obtain ⟨k', hi', he⟩ := State.fieldFound?_setVm hvm h2
  exact ⟨c, k', i, f, a, cell, by rw [hvm.findClass]; exact h1, hi', h3, by rw [he]; exact h4, h5, h6, h7, h8, by rw [he]; exact h9, h10⟩
theorem vx_L.kept {C n d : String} {A : Nat → Prop} {U : State} {H H1 : Heap} (h : vx_L C n d A U H) (hq : ∀ a : Nat, a < H.size → ¬ A a → H1[a]? = H[a]?) : vx_L C n d A U H1 := by
  obtain ⟨c, k, i, f, a, cell, h1, h2, h3, h4, h5, h6, h7, h8, h9, h10⟩ := h
  exact ⟨c, k, i, f, a, cell, h1, h2, h3, h4, by rw [hq a (Array.getElem?_eq_some_iff.mp h5).1 h10]; exact h5, h6, h7, h8, h9, h10⟩
theorem vx_L.narrow {C n d : String} {A B : Nat → Prop} {U : State} {H : Heap} (h : vx_L C n d A U H) (hAB : ∀ q, B q → A q) : vx_L C n d B U H := by
  obtain ⟨c, k, i, f, a, cell, h1, h2, h3, h4, h5, h6, h7, h8, h9, h10⟩ := h
  exact ⟨c, k, i, f, a, cell, h1, h2, h3, h4, h5, h6, h7, h8, h9, fun z => h10 (hAB _ z)⟩
theorem vx_L.word {C n d : String} {A : Nat → Prop} {s : State} {args : Array Value} (h : vx_L C n d A s s.heap) : (Cond.laysStatic C n d).before args s = true := by
  obtain ⟨c, k, i, f, a, cell, h1, h2, h3, h4, h5, h6, h7, h8, h9, -⟩ := h
  show (Cond.laysStatic C n d).holds args s none s [] = true
  exact Cond.laysStatic_of h1 h2 h3 h4 h5 h6 h7 h8 h9
/-- .. and what it holds: null or some reference -/
def vx_Zq (C n d : String) (A : Nat → Prop) (U : State) (H : Heap) : Prop := va_Zq C n d A U H ∧ vx_L C n d A U H
theorem vx_Zq.moved {C n d : String} {A : Nat → Prop} {u U : State} {H : Heap} (hvm : u.vm.Alike U.vm) (h : vx_Zq C n d A u H) : vx_Zq C n d A U H := ⟨va_Zq.moved hvm h.1, vx_L.moved hvm h.2⟩
theorem vx_Zq.kept {C n d : String} {A : Nat → Prop} {U : State} {H H1 : Heap} (h : vx_Zq C n d A U H) (hq : ∀ a : Nat, a < H.size → ¬ A a → H1[a]? = H[a]?) : vx_Zq C n d A U H1 := ⟨va_Zq.kept h.1 hq, vx_L.kept h.2 hq⟩
theorem vx_Zq.narrow {C n d : String} {A B : Nat → Prop} {U : State} {H : Heap} (h : vx_Zq C n d A U H) (hAB : ∀ q, B q → A q) : vx_Zq C n d B U H := ⟨va_Zq.narrow h.1 hAB, vx_L.narrow h.2 hAB⟩
theorem vx_Zqof {args : Array Value} {s : State} {C n d : String} {A : Nat → Prop} (hl : (Cond.laysStatic C n d).before args s = true) (hini : (Cond.initialized C).before args s = true) (h : (Cond.isRef (.static C n d)).before args s = true) (hA : ∀ a : Nat, a < s.heap.size → ¬ A a) : vx_Zq C n d A s s.heap := by
  refine ⟨va_Zqof hl hini h hA, ?_⟩
  obtain ⟨c, k, i, f, a, cell, h1, h2, h3, h4, h5, h6, h7, h8, h9⟩ := Cond.laysStatic_spec hl
  exact ⟨c, k, i, f, a, cell, h1, h2, h3, h4, h5, h6, h7, h8, h9, hA a (Array.getElem?_eq_some_iff.mp h5).1⟩
theorem vx_isRef {C n d : String} {v : Value} {A : Nat → Prop} {s : State} {args : Array Value} (h : va_Z C n d v A s s.heap) (hv : v.isRef = true) : (Cond.isRef (.static C n d)).before args s = true := by
  obtain ⟨cf, kf, fi, f, a, cell, h1, h2, h3, h4, h5, h6, h7, -⟩ := h
  have he : (Term.static C n d).eval args s none [] s = some v := by
    simp [Term.eval, State.fieldNamed?, h1, h2, h4, h5, h6, h7]
  simp only [Cond.before, Cond.holds, Cond.value, he]
  cases v <;> simp_all [Value.isRef]
theorem vx_isRefq {C n d : String} {A : Nat → Prop} {s : State} {args : Array Value} (h : va_Zq C n d A s s.heap) : (Cond.isRef (.static C n d)).before args s = true := by
  rcases h with h | ⟨t, h⟩
  · exact vx_isRef h rfl
  · exact vx_isRef h rfl
/-- the same frame, seen from here: as if the method were called anew in this heap -/
theorem vx_rebase {T : State} (X : Stand p l e R s m args below meth c T locs cells slots) {R' : Room} (hf : R'.frames ≤ R.frames) (hl : R'.locals ≤ R.locals) (hc : cells + R'.cells ≤ R.cells) (hs : slots + R'.slots ≤ R.slots) :
    Stand p l e R' ((T.setVm s.vm).setFrames (.invoking m args :: below)) m args below meth c T [] 0 0 := by
  have htop : (T.setVm s.vm).topJava?.isSome := X.here.top
  have hF : ((T.setVm s.vm).setFrames (.invoking m args :: below)).frames = .invoking m args :: below := State.frames_setFrames _ (State.cur_lt_of_top htop)
  obtain ⟨g₀, hg0⟩ := Option.isSome_iff_exists.mp htop
  obtain ⟨r, hr⟩ := State.topJava?_eq_some.mp hg0
  have hl9 : e.platform.stackLimits (T.setVm s.vm).me = e.platform.stackLimits s.me := X.limits
  have hb9 : (T.setVm s.vm).me.stackBytes = s.me.stackBytes := X.bytes
  refine ⟨X.admits, X.cas, X.clock, hF, ?_, X.hears, X.method, X.code, X.here, X.tail, X.warmed, ?_, ?_, ?_⟩
  · have h := X.room
    have hU : ((T.setVm s.vm).setFrames (.invoking m args :: below)).localsInUse = s.localsInUse := by
      rw [State.localsInUse_invoking hF (meth := meth) (c := c) X.method X.code, State.localsInUse_invoking X.frames X.method X.code]
    simp only [State.hasRoom, Bool.and_eq_true, decide_eq_true_eq] at h ⊢
    obtain ⟨⟨⟨⟨h1, h2, h3, h4, h5, h6⟩, h7⟩, h8⟩, h9⟩ := h
    rw [X.frames, List.length_cons] at h2 h3
    have q1 := X.heapSize
    have q2 := X.used
    simp only [hF, hU, List.length_cons, State.stackLimits_setFrames, State.stackBytes_setFrames, hl9, hb9]
    refine ⟨⟨⟨⟨by omega, by omega, by omega, by omega, by omega, h6⟩, ?_⟩, ?_⟩, X.book⟩
    · show T.heap.size + R'.cells ≤ e.platform.maxCells
      omega
    · show T.slotsUsed + R'.slots ≤ e.platform.maxSlots
      omega
  · rw [State.stackLimits_setFrames]; rfl
  · rw [State.stackBytes_setFrames]; rfl
  · refine ⟨?_, Nat.le_refl _, Nat.le_refl _, ?_, ?_, fun a c9 h9 => ⟨c9, h9, rfl, rfl, fun _ _ => rfl⟩⟩
    · obtain ⟨t, ht, -⟩ := State.frames_cons hr
      show T.setVm s.vm = { ((T.setVm s.vm).setFrames (.invoking m args :: below)).setFrames (T.setVm s.vm).frames with heap := T.heap, slotsUsed := T.slotsUsed }
      rw [State.setFrames_setFrames, State.setFrames_self ht]
      rfl
    · show T.slotsUsed = T.slotsUsed + ((T.heap.toList.drop T.heap.size).map (·.slots.size)).sum
      rw [List.drop_eq_nil_of_le (Nat.le_of_eq Array.length_toList)]
      rfl
    · show ((T.heap.toList.drop T.heap.size).map (·.slots.size)).sum ≤ 0
      rw [List.drop_eq_nil_of_le (Nat.le_of_eq Array.length_toList)]
      exact Nat.le_refl _
/-- 'throw new E()': new; dup; invokespecial; athrow -/
theorem vx_throw0 {cc : ByteArray} {pc : Nat} (hexec : p.tables.exec = Jvm.exec) (hb : c.code = cc) (hl : l.stackTraces = false) {own cls : String} {names : List String} {ik ic mc ms : Nat} {A : Nat → Prop}
    (hown : s.vm.findClass own = some m.cls) (hcls : Bundle.fit cls = true) (hnames : ∀ n ∈ names, Bundle.fit n = true)
    (hk : (Cond.classLink own ik cls).before args s = true) (hini : (Cond.initialized cls).before args s = true) (hat : ∀ w ∈ vx_at0 own ic cls names, w.before args s = true)
    (hgood : ∀ w ∈ Cond.classLink own ik cls :: Cond.initialized cls :: vx_at0 own ic cls names, vx_ot w = true)
    (hU : vx_Zq Bundle.tN "UNASSIGNED_STACK" Bundle.steD A s s.heap) (hN : vx_Zq Bundle.tN "SUPPRESSED_SENTINEL" Bundle.listD A s s.heap) (hS : va_S A s.heap H locs) (hsize : ls.size = c.maxLocals)
    (d0 : decode cc pc = .ok (.new ik, 3)) (d3 : decode cc (pc + 3) = .ok (.dup, 1)) (d4 : decode cc (pc + 4) = .ok (.invokespecial ic, 3)) (d7 : decode cc (pc + 7) = .ok (.athrow, 1))
    (hout : ∀ x ∈ c.exceptionTable.toList, covers x (pc + 7) = false)
    (hRframes : names.length + 3 < R.frames) (hRlocals : (rest.map fun v => v.category).sum + (13 * (names.length + 1) + 42) ≤ R.locals) (hRcells : cells + 1 ≤ R.cells) (hRslots : slots + 6 ≤ R.slots) (hlocks : meth.locks = false)
    (hx : ∀ t : State, s.vm.Alike t.vm → H.size ≤ t.heap.size → (∀ q : Nat, q < H.size → t.heap[q]? = H[q]?) → XC cls s t)
    (hf : ∀ z ∈ locs, free z.base) (hc : cells + 1 ≤ mc) (hs : slots + 6 ≤ ms) :
    W p l e R s m args below meth c H locs cells slots (vx_MQ below Qc XC args s mc ms free) (F0 m pc ls rest) := by
  intro T hT X
  have htr : e.platform.stackTraces = false := (show e.platform.stackTraces = l.stackTraces by rw [X.admits.platform]).trans hl
  have Y := vx_rebase X (R' := { frames := R.frames, locals := R.locals, cells := 1, slots := 6 }) (Nat.le_refl _) (Nat.le_refl _) hRcells hRslots
  obtain ⟨s', hA⟩ : ∃ z, z = (T.setVm s.vm).setFrames (.invoking m args :: below) := ⟨_, rfl⟩
  rw [← hA] at Y
  have hvm : s'.vm = s.vm := by rw [hA]; rfl
  have hhp : s'.heap = H := by rw [hA]; exact hT
  have hW0 : s.WarmedH s'.vm := by rw [hvm]; exact State.WarmedH.refl s
  have hat' : ∀ w ∈ vx_at0 own ic cls names, w.before args s' = true := fun w hw => vx_ot_at hW0 hvm.symm (hgood w (List.mem_cons_of_mem _ (List.mem_cons_of_mem _ hw))) (hat w hw)
  have hk' : (Cond.classLink own ik cls).before args s' = true := vx_ot_at hW0 hvm.symm (hgood _ List.mem_cons_self) hk
  have hini' : (Cond.initialized cls).before args s' = true := vx_ot_at hW0 hvm.symm (hgood _ (List.mem_cons_of_mem _ List.mem_cons_self)) hini
  have hU' : vx_Zq Bundle.tN "UNASSIGNED_STACK" Bundle.steD A s' s'.heap := by rw [hhp]; exact vx_Zq.moved hW0.alike (hU.kept hS.2.1)
  have hN' : vx_Zq Bundle.tN "SUPPRESSED_SENTINEL" Bundle.listD A s' s'.heap := by rw [hhp]; exact vx_Zq.moved hW0.alike (hN.kept hS.2.1)
  have h : ∀ w ∈ Bundle.ownAtoms0 own ic cls names, w.before args s' = true := vx_own hat' (vx_isRefq hU'.1) (vx_isRefq hN'.1) hU'.2.word hN'.2.word
  have hown' : s'.vm.findClass own = some m.cls := by rw [hvm]; exact hown
  have hins : (Cond.instantiable cls 6).before args s' = true := h _ (by simp [Bundle.ownAtoms0])
  obtain ⟨vm₁, cX, kX, hfX, hkX, -, -, X₁, st1⟩ := Y.newCold hexec (own := own) (C := cls) (index := ik) (n := 6) hown' hk' hins hini'
    (g := F0 m pc ls rest) rfl (by rw [hb]; exact d0) (Nat.le_refl _) (Nat.le_refl _)
  generalize hT1 : (T.setVm vm₁).pushCell { cls := cX, slots := kX.instanceTypes.map defaultValue, vm := .none } = T1 at X₁ st1
  have hcat : (Value.ref T.heap.size).category = 1 := rfl
  have hcellA : T1.heap[T.heap.size]? = some (freshCell cX kX) := by rw [← hT1]; exact State.heap_pushCell_size _ _
  have d3' : decode c.code (pc + 3) = .ok (.dup, 1) := by rw [hb]; exact d3
  obtain ⟨U, hsteps, hrun, hend, hW, hsame, ce, hce, hO⟩ := X₁.ctorThrow0 hexec htr (own := own) (cls := cls) (names := names) (ic := ic) hown' hcls hnames h (fun x hx => nomatch hx) hfX hkX hcellA (by rw [hhp, hT]; exact Nat.le_refl _)
    (g := { method := m, pc := pc + 4, locals := ls, stack := .ref T.heap.size :: .ref T.heap.size :: rest, locked := none }) rfl hsize rfl rfl (rest := rest) rfl
    (by rw [hb]; exact d4) (by rw [hb]; exact d7) hout hRframes (by simp only [List.map_cons, List.sum_cons, hcat]; omega) hlocks
  obtain ⟨f1, f2⟩ := vx_frame hsame
  rw [hhp] at f1 f2
  have hWs : s.WarmedH U.vm := State.WarmedH.trans hW0 hW
  have hcl : s.vm.findClass cls = some ce.cls := by
    have h9 := hO.cls
    rw [hvm] at h9
    exact h9
  have hall : s.sameButNew ({ U with vm := s.vm } : State) locs mc ms := by
    subst hA
    obtain ⟨e1, e2⟩ := hsame
    rw [State.setFrames_setFrames] at e1
    have h2 : (T.setVm s.vm).sameButNew ({ U with vm := s.vm } : State) [] (0 + 1) (0 + 6) := ⟨e1, e2⟩
    have h3 := X.same.trans h2
    rw [List.append_nil] at h3
    exact h3.mono hc hs
  refine ⟨U, ?_, .threw T.heap.size, hrun, hend, Or.inr ⟨T.heap.size, rfl, cls, ce, locs, hx U hWs.alike f1 (fun q hq => f2 q hq (fun z hz => nomatch hz)), hce, hO.vm, hcl, hWs, hall, hf⟩⟩
  refine st1 _ ?_
  show Steps p.tables e below (T1.setTop { method := m, pc := pc + 3, locals := ls, stack := .ref T.heap.size :: rest, locked := none }) _
  jvm_step X₁.here [X₁.here.top, hexec, d3', Value.category]
  exact hsteps
/-- 'throw new E("text")': new; dup; ldc; invokespecial; athrow -/
theorem vx_throwS {cc : ByteArray} {pc : Nat} (hexec : p.tables.exec = Jvm.exec) (hb : c.code = cc) (hl : l.stackTraces = false) {own cls text : String} {names : List String} {ik is ic mc ms sa : Nat} {A : Nat → Prop}
    (hown : s.vm.findClass own = some m.cls) (hcls : Bundle.fit cls = true) (hnames : ∀ n ∈ names, Bundle.fit n = true)
    (hk : (Cond.classLink own ik cls).before args s = true) (hini : (Cond.initialized cls).before args s = true) (hstr : vk_R own is text sa s) (hat : ∀ w ∈ vx_atS own ic cls names, w.before args s = true)
    (hgood : ∀ w ∈ Cond.classLink own ik cls :: Cond.initialized cls :: vx_atS own ic cls names, vx_ot w = true)
    (hU : vx_Zq Bundle.tN "UNASSIGNED_STACK" Bundle.steD A s s.heap) (hN : vx_Zq Bundle.tN "SUPPRESSED_SENTINEL" Bundle.listD A s s.heap) (hS : va_S A s.heap H locs) (hsize : ls.size = c.maxLocals)
    (d0 : decode cc pc = .ok (.new ik, 3)) (d3 : decode cc (pc + 3) = .ok (.dup, 1)) (d4 : decode cc (pc + 4) = .ok (.ldc is, 2)) (d6 : decode cc (pc + 6) = .ok (.invokespecial ic, 3)) (d9 : decode cc (pc + 9) = .ok (.athrow, 1))
    (hout : ∀ x ∈ c.exceptionTable.toList, covers x (pc + 9) = false)
    (hRframes : names.length + 3 < R.frames) (hRlocals : (rest.map fun v => v.category).sum + (13 * (names.length + 1) + 43) ≤ R.locals) (hRcells : cells + 1 ≤ R.cells) (hRslots : slots + 6 ≤ R.slots) (hlocks : meth.locks = false)
    (hx : ∀ t : State, s.vm.Alike t.vm → H.size ≤ t.heap.size → (∀ q : Nat, q < H.size → t.heap[q]? = H[q]?) → XC cls s t)
    (hf : ∀ z ∈ locs, free z.base) (hc : cells + 1 ≤ mc) (hs : slots + 6 ≤ ms) :
    W p l e R s m args below meth c H locs cells slots (vx_MQ below Qc XC args s mc ms free) (F0 m pc ls rest) := by
  intro T hT X
  have htr : e.platform.stackTraces = false := (show e.platform.stackTraces = l.stackTraces by rw [X.admits.platform]).trans hl
  have Y := vx_rebase X (R' := { frames := R.frames, locals := R.locals, cells := 1, slots := 6 }) (Nat.le_refl _) (Nat.le_refl _) hRcells hRslots
  obtain ⟨s', hA⟩ : ∃ z, z = (T.setVm s.vm).setFrames (.invoking m args :: below) := ⟨_, rfl⟩
  rw [← hA] at Y
  have hvm : s'.vm = s.vm := by rw [hA]; rfl
  have hhp : s'.heap = H := by rw [hA]; exact hT
  have hW0 : s.WarmedH s'.vm := by rw [hvm]; exact State.WarmedH.refl s
  have hat' : ∀ w ∈ vx_atS own ic cls names, w.before args s' = true := fun w hw => vx_ot_at hW0 hvm.symm (hgood w (List.mem_cons_of_mem _ (List.mem_cons_of_mem _ hw))) (hat w hw)
  have hk' : (Cond.classLink own ik cls).before args s' = true := vx_ot_at hW0 hvm.symm (hgood _ List.mem_cons_self) hk
  have hini' : (Cond.initialized cls).before args s' = true := vx_ot_at hW0 hvm.symm (hgood _ (List.mem_cons_of_mem _ List.mem_cons_self)) hini
  have hU' : vx_Zq Bundle.tN "UNASSIGNED_STACK" Bundle.steD A s' s'.heap := by rw [hhp]; exact vx_Zq.moved hW0.alike (hU.kept hS.2.1)
  have hN' : vx_Zq Bundle.tN "SUPPRESSED_SENTINEL" Bundle.listD A s' s'.heap := by rw [hhp]; exact vx_Zq.moved hW0.alike (hN.kept hS.2.1)
  have h : ∀ w ∈ Bundle.ownAtoms own ic cls names, w.before args s' = true := vx_own hat' (vx_isRefq hU'.1) (vx_isRefq hN'.1) hU'.2.word hN'.2.word
  have hown' : s'.vm.findClass own = some m.cls := by rw [hvm]; exact hown
  have hins : (Cond.instantiable cls 6).before args s' = true := h _ (by simp [Bundle.ownAtoms])
  obtain ⟨vm₁, cX, kX, hfX, hkX, -, -, X₁, st1⟩ := Y.newCold hexec (own := own) (C := cls) (index := ik) (n := 6) hown' hk' hins hini'
    (g := F0 m pc ls rest) rfl (by rw [hb]; exact d0) (Nat.le_refl _) (Nat.le_refl _)
  generalize hT1 : (T.setVm vm₁).pushCell { cls := cX, slots := kX.instanceTypes.map defaultValue, vm := .none } = T1 at X₁ st1
  have hcat : (Value.ref T.heap.size).category = 1 := rfl
  have hcellA : T1.heap[T.heap.size]? = some (freshCell cX kX) := by rw [← hT1]; exact State.heap_pushCell_size _ _
  have d3' : decode c.code (pc + 3) = .ok (.dup, 1) := by rw [hb]; exact d3
  have d4' : decode c.code (pc + 4) = .ok (.ldc is, 2) := by rw [hb]; exact d4
  have hstr' : vk_R own is text sa s' := vk_R.warm hW0 hstr
  obtain ⟨U, hsteps, hrun, hend, hW, hsame, ce, hce, hO⟩ := X₁.ctorThrowS hexec htr (own := own) (cls := cls) (names := names) (ic := ic) hown' hcls hnames h (fun x hx => nomatch hx) hfX hkX hcellA (by rw [hhp, hT]; exact Nat.le_refl _) (msg := .ref sa) rfl
    (g := { method := m, pc := pc + 6, locals := ls, stack := .ref sa :: .ref T.heap.size :: .ref T.heap.size :: rest, locked := none }) rfl hsize rfl rfl (rest := rest) rfl
    (by rw [hb]; exact d6) (by rw [hb]; exact d9) hout hRframes (by simp only [List.map_cons, List.sum_cons, hcat]; omega) hlocks
  obtain ⟨f1, f2⟩ := vx_frame hsame
  rw [hhp] at f1 f2
  have hWs : s.WarmedH U.vm := State.WarmedH.trans hW0 hW
  have hcl : s.vm.findClass cls = some ce.cls := by
    have h9 := hO.cls
    rw [hvm] at h9
    exact h9
  have hall : s.sameButNew ({ U with vm := s.vm } : State) locs mc ms := by
    subst hA
    obtain ⟨e1, e2⟩ := hsame
    rw [State.setFrames_setFrames] at e1
    have h2 : (T.setVm s.vm).sameButNew ({ U with vm := s.vm } : State) [] (0 + 1) (0 + 6) := ⟨e1, e2⟩
    have h3 := X.same.trans h2
    rw [List.append_nil] at h3
    exact h3.mono hc hs
  refine ⟨U, ?_, .threw T.heap.size, hrun, hend, Or.inr ⟨T.heap.size, rfl, cls, ce, locs, hx U hWs.alike f1 (fun q hq => f2 q hq (fun z hz => nomatch hz)), hce, hO.vm, hcl, hWs, hall, hf⟩⟩
  refine st1 _ ?_
  show Steps p.tables e below (T1.setTop { method := m, pc := pc + 3, locals := ls, stack := .ref T.heap.size :: rest, locked := none }) _
  jvm_step X₁.here [X₁.here.top, hexec, d3', Value.category]
  exact X₁.ldcString hexec (own := own) (text := text) (index := is) (a := sa) hown' hstr'.1 hstr'.2
    (g := { method := m, pc := pc + 4, locals := ls, stack := .ref T.heap.size :: .ref T.heap.size :: rest, locked := none }) rfl d4' _ hsteps
/-- 'throw new E("text")', the text by a wide index -/
theorem vx_throwSW {cc : ByteArray} {pc : Nat} (hexec : p.tables.exec = Jvm.exec) (hb : c.code = cc) (hl : l.stackTraces = false) {own cls text : String} {names : List String} {ik is ic mc ms sa : Nat} {A : Nat → Prop}
    (hown : s.vm.findClass own = some m.cls) (hcls : Bundle.fit cls = true) (hnames : ∀ n ∈ names, Bundle.fit n = true)
    (hk : (Cond.classLink own ik cls).before args s = true) (hini : (Cond.initialized cls).before args s = true) (hstr : vk_R own is text sa s) (hat : ∀ w ∈ vx_atS own ic cls names, w.before args s = true)
    (hgood : ∀ w ∈ Cond.classLink own ik cls :: Cond.initialized cls :: vx_atS own ic cls names, vx_ot w = true)
    (hU : vx_Zq Bundle.tN "UNASSIGNED_STACK" Bundle.steD A s s.heap) (hN : vx_Zq Bundle.tN "SUPPRESSED_SENTINEL" Bundle.listD A s s.heap) (hS : va_S A s.heap H locs) (hsize : ls.size = c.maxLocals)
    (d0 : decode cc pc = .ok (.new ik, 3)) (d3 : decode cc (pc + 3) = .ok (.dup, 1)) (d4 : decode cc (pc + 4) = .ok (.ldc_w is, 3)) (d7 : decode cc (pc + 7) = .ok (.invokespecial ic, 3)) (d10 : decode cc (pc + 10) = .ok (.athrow, 1))
    (hout : ∀ x ∈ c.exceptionTable.toList, covers x (pc + 10) = false)
    (hRframes : names.length + 3 < R.frames) (hRlocals : (rest.map fun v => v.category).sum + (13 * (names.length + 1) + 43) ≤ R.locals) (hRcells : cells + 1 ≤ R.cells) (hRslots : slots + 6 ≤ R.slots) (hlocks : meth.locks = false)
    (hx : ∀ t : State, s.vm.Alike t.vm → H.size ≤ t.heap.size → (∀ q : Nat, q < H.size → t.heap[q]? = H[q]?) → XC cls s t)
    (hf : ∀ z ∈ locs, free z.base) (hc : cells + 1 ≤ mc) (hs : slots + 6 ≤ ms) :
    W p l e R s m args below meth c H locs cells slots (vx_MQ below Qc XC args s mc ms free) (F0 m pc ls rest) := by
  intro T hT X
  have htr : e.platform.stackTraces = false := (show e.platform.stackTraces = l.stackTraces by rw [X.admits.platform]).trans hl
  have Y := vx_rebase X (R' := { frames := R.frames, locals := R.locals, cells := 1, slots := 6 }) (Nat.le_refl _) (Nat.le_refl _) hRcells hRslots
  obtain ⟨s', hA⟩ : ∃ z, z = (T.setVm s.vm).setFrames (.invoking m args :: below) := ⟨_, rfl⟩
  rw [← hA] at Y
  have hvm : s'.vm = s.vm := by rw [hA]; rfl
  have hhp : s'.heap = H := by rw [hA]; exact hT
  have hW0 : s.WarmedH s'.vm := by rw [hvm]; exact State.WarmedH.refl s
  have hat' : ∀ w ∈ vx_atS own ic cls names, w.before args s' = true := fun w hw => vx_ot_at hW0 hvm.symm (hgood w (List.mem_cons_of_mem _ (List.mem_cons_of_mem _ hw))) (hat w hw)
  have hk' : (Cond.classLink own ik cls).before args s' = true := vx_ot_at hW0 hvm.symm (hgood _ List.mem_cons_self) hk
  have hini' : (Cond.initialized cls).before args s' = true := vx_ot_at hW0 hvm.symm (hgood _ (List.mem_cons_of_mem _ List.mem_cons_self)) hini
  have hU' : vx_Zq Bundle.tN "UNASSIGNED_STACK" Bundle.steD A s' s'.heap := by rw [hhp]; exact vx_Zq.moved hW0.alike (hU.kept hS.2.1)
  have hN' : vx_Zq Bundle.tN "SUPPRESSED_SENTINEL" Bundle.listD A s' s'.heap := by rw [hhp]; exact vx_Zq.moved hW0.alike (hN.kept hS.2.1)
  have h : ∀ w ∈ Bundle.ownAtoms own ic cls names, w.before args s' = true := vx_own hat' (vx_isRefq hU'.1) (vx_isRefq hN'.1) hU'.2.word hN'.2.word
  have hown' : s'.vm.findClass own = some m.cls := by rw [hvm]; exact hown
  have hins : (Cond.instantiable cls 6).before args s' = true := h _ (by simp [Bundle.ownAtoms])
  obtain ⟨vm₁, cX, kX, hfX, hkX, -, -, X₁, st1⟩ := Y.newCold hexec (own := own) (C := cls) (index := ik) (n := 6) hown' hk' hins hini'
    (g := F0 m pc ls rest) rfl (by rw [hb]; exact d0) (Nat.le_refl _) (Nat.le_refl _)
  generalize hT1 : (T.setVm vm₁).pushCell { cls := cX, slots := kX.instanceTypes.map defaultValue, vm := .none } = T1 at X₁ st1
  have hcat : (Value.ref T.heap.size).category = 1 := rfl
  have hcellA : T1.heap[T.heap.size]? = some (freshCell cX kX) := by rw [← hT1]; exact State.heap_pushCell_size _ _
  have d3' : decode c.code (pc + 3) = .ok (.dup, 1) := by rw [hb]; exact d3
  have d4' : decode c.code (pc + 4) = .ok (.ldc_w is, 3) := by rw [hb]; exact d4
  have hstr' : vk_R own is text sa s' := vk_R.warm hW0 hstr
  obtain ⟨U, hsteps, hrun, hend, hW, hsame, ce, hce, hO⟩ := X₁.ctorThrowS hexec htr (own := own) (cls := cls) (names := names) (ic := ic) hown' hcls hnames h (fun x hx => nomatch hx) hfX hkX hcellA (by rw [hhp, hT]; exact Nat.le_refl _) (msg := .ref sa) rfl
    (g := { method := m, pc := pc + 7, locals := ls, stack := .ref sa :: .ref T.heap.size :: .ref T.heap.size :: rest, locked := none }) rfl hsize rfl rfl (rest := rest) rfl
    (by rw [hb]; exact d7) (by rw [hb]; exact d10) hout hRframes (by simp only [List.map_cons, List.sum_cons, hcat]; omega) hlocks
  obtain ⟨f1, f2⟩ := vx_frame hsame
  rw [hhp] at f1 f2
  have hWs : s.WarmedH U.vm := State.WarmedH.trans hW0 hW
  have hcl : s.vm.findClass cls = some ce.cls := by
    have h9 := hO.cls
    rw [hvm] at h9
    exact h9
  have hall : s.sameButNew ({ U with vm := s.vm } : State) locs mc ms := by
    subst hA
    obtain ⟨e1, e2⟩ := hsame
    rw [State.setFrames_setFrames] at e1
    have h2 : (T.setVm s.vm).sameButNew ({ U with vm := s.vm } : State) [] (0 + 1) (0 + 6) := ⟨e1, e2⟩
    have h3 := X.same.trans h2
    rw [List.append_nil] at h3
    exact h3.mono hc hs
  refine ⟨U, ?_, .threw T.heap.size, hrun, hend, Or.inr ⟨T.heap.size, rfl, cls, ce, locs, hx U hWs.alike f1 (fun q hq => f2 q hq (fun z hz => nomatch hz)), hce, hO.vm, hcl, hWs, hall, hf⟩⟩
  refine st1 _ ?_
  show Steps p.tables e below (T1.setTop { method := m, pc := pc + 3, locals := ls, stack := .ref T.heap.size :: rest, locked := none }) _
  jvm_step X₁.here [X₁.here.top, hexec, d3', Value.category]
  exact X₁.ldcStringW hexec (own := own) (text := text) (index := is) (a := sa) hown' hstr'.1 hstr'.2
    (g := { method := m, pc := pc + 4, locals := ls, stack := .ref T.heap.size :: .ref T.heap.size :: rest, locked := none }) rfl d4' _ hsteps
end Ends
section Bodies
variable {l : Launch}
theorem vx_ofW {y : MethodName} {ws ws' : List Cond} {rm : Room} {Pc : Array Value → State → Prop} {Qc : Array Value → State → Outcome → State → Prop} {XC : String → State → State → Prop} {mc ms : Nat} {free : Addr → Prop} {cc : ByteArray} {maxL : Nat} {ret : Option FieldType}
    (hy : plainName y.cls = true) (hw : ws = Cond.code y cc maxL ret :: ws')
    (body : ∀ p e s m args below meth c s₁, BodyLoose p l y (headSpec ws rm) cc maxL ret e s m args below meth c s₁ → c.maxLocals = maxL → (∀ x ∈ c.exceptionTable.toList, False) → Pc args s →
      W p l e (headSpec ws rm).room s m args below meth c s.heap [] 0 0 (vx_MQ below Qc XC args s mc ms free) (entryFrame m args maxL)) : vx_Met l y ws rm Pc Qc XC mc ms free := by
  refine MetFree.of_bodyS (code := cc) (maxLocals := maxL) (ret := ret) hy ?_ ?_
  · intro args s m h hn
    obtain ⟨meth, c, h1, h2, h3, h4, h5, h6, -, -⟩ := Cond.code_spec hn (atoms_spec (ws := ws) h _ (by rw [hw]; exact List.mem_cons_self))
    exact ⟨meth, c, h1, h2, h3, h4, h5, h6⟩
  · intro p e s m args below meth c s₁ B hml hP _
    have hh0 : s₁.heap = s.heap := by rw [B.state]; rfl
    have ht : ∀ x ∈ c.exceptionTable.toList, False := by
      obtain ⟨meth9, c9, h1, h2, -, -, -, -, h7, -⟩ := Cond.code_spec B.named (atoms_spec (ws := ws) B.pre _ (by rw [hw]; exact List.mem_cons_self))
      cases Option.some.inj (h1.symm.trans B.method)
      cases Option.some.inj (h2.symm.trans (Stand.of_body B).code)
      intro x hx
      rw [Array.isEmpty_iff.mp h7] at hx
      cases hx
    obtain ⟨t, a1, o, b1, b2, b3⟩ := body p e s m args below meth c s₁ B hml ht hP s₁ hh0 (Stand.of_body B)
    exact ⟨t, o, a1, b1, b2, b3⟩
/-- the table of a body with handlers -/
theorem vx_table {p : Program} {x y : MethodName} {S : Spec} {cc bytes : ByteArray} {maxL maxL' : Nat} {ret ret' : Option FieldType} {e : Env} {s s₁ : State} {m : MethodId} {args : Array Value} {below : List Frame} {meth : Method} {c : Code} {hh : List (Nat × Nat × Nat × Nat)}
    (B : BodyLoose p l y S cc maxL ret e s m args below meth c s₁) (h : (Cond.codeWith y bytes maxL' ret' hh).before args s = true) : c.exceptionTable.toList = tableOf hh := by
  obtain ⟨m9, meth9, c9, hn9, h1, h2, -, -, h6, -⟩ := Cond.codeWith_spec h
  cases Option.some.inj (hn9.symm.trans B.named)
  cases Option.some.inj (h1.symm.trans B.method)
  cases Option.some.inj (h2.symm.trans (Stand.of_body B).code)
  rw [← h6, table_eq]
end Bodies
end VXA
/-! ===== END ===== -/
/-! ===== BEGIN a static call of a method with an exception table ===== -/
section VXS
variable {p : Program} {l : Launch} {e : Env} {R : Room} {s : State} {m : MethodId} {args : Array Value} {below : List Frame} {meth : Method} {c : Code} {T : State} {H : Heap} {locs : List Loc} {cells slots : Nat}
abbrev vx_CSW (R : Room) (s : State) (args : Array Value) (own : String) (index : Nat) (y : MethodName) (bytes : ByteArray) (maxL : Nat) (ret : Option FieldType) (hh : List (Nat × Nat × Nat × Nat)) (ws : List Cond) (rm : Room) (mc ms n : Nat) : Prop :=
  (rm.cells = mc ∧ rm.slots = ms ∧ rm.frames + 1 ≤ R.frames ∧ 8 + (maxL + 11) + rm.locals ≤ R.locals ∧ (∀ w ∈ ws, ∀ (a' : Array Value) (U : State), s.WarmedH U.vm → w.before a' U = true) ∧ Cond.codeWith y bytes maxL ret hh ∈ ws) ∧
  (Cond.codeWith y bytes maxL ret hh).before args s = true ∧ (Cond.initialized y.cls).before args s = true ∧ (y.cls ≠ "java/lang/invoke/MethodHandle" ∧ y.cls ≠ "java/lang/invoke/VarHandle") ∧
  (∀ sig, parseMethodDescriptor y.desc = some sig → n = sig.parameters.length) ∧ (Cond.methodLink own index y).before args s = true ∧ (Cond.static y).before args s = true
theorem vx_cwSW {own : String} {index maxL mc ms : Nat} {y : MethodName} {bytes : ByteArray} {ret : Option FieldType} {hh : List (Nat × Nat × Nat × Nat)} {Ts ws ws' : List Cond} {rm : Room} (n : Nat) (ht : ∀ w ∈ Ts, w.before args s = true) (hT : GoodIn Ts (va_wsS own index y ws)) (hw : ws = Cond.codeWith y bytes maxL ret hh :: ws') (hrc : rm.cells = mc) (hrs : rm.slots = ms)
    (hd : y.cls ≠ "java/lang/invoke/MethodHandle" ∧ y.cls ≠ "java/lang/invoke/VarHandle" ∧ (parseMethodDescriptor y.desc).map (fun d => d.parameters.length) = some n) (hR : rm.frames + 1 ≤ R.frames ∧ 8 + (maxL + 11) + rm.locals ≤ R.locals) :
    vx_CSW R s args own index y bytes maxL ret hh ws rm mc ms n := by
  have ok : ∀ w ∈ va_wsS own index y ws, w.before args s = true := fun w h => ht w (hT w h).1
  have hG : GoodIn Ts ws := fun w h => hT w (by unfold va_wsS; exact List.mem_append_right _ h)
  have hc : Cond.codeWith y bytes maxL ret hh ∈ ws := by rw [hw]; exact List.mem_cons_self
  refine ⟨⟨hrc, hrs, hR.1, hR.2, pay_in ht hG, hc⟩, ht _ (hG _ hc).1, ok _ (by simp [va_wsS]), ⟨hd.1, hd.2.1⟩, fun sig h => ?_, ok _ (by simp [va_wsS]), ok _ (by simp [va_wsS])⟩
  have h2 := hd.2.2
  rw [h] at h2
  exact (Option.some.inj h2).symm
theorem vx_callSW (X : Stand p l e R s m args below meth c T locs cells slots) (hexec : p.tables.exec = Jvm.exec) {own : String} {index : Nat} {y : MethodName} {bytes : ByteArray} {maxL : Nat} {ret : Option FieldType} {hh : List (Nat × Nat × Nat × Nat)}
    (hown : s.vm.findClass own = some m.cls) (hlink : (Cond.methodLink own index y).before args s = true) (hstat : (Cond.static y).before args s = true) (hinit : (Cond.initialized y.cls).before args s = true)
    (hcode : (Cond.codeWith y bytes maxL ret hh).before args s = true) (hy : y.cls ≠ "java/lang/invoke/MethodHandle" ∧ y.cls ≠ "java/lang/invoke/VarHandle")
    {W9 : Nat} {Pre : Pt → Array Value → Prop} {Post : Pt → Array Value → Option Value → Pt → Prop} (hK : Back l R p e below s args y 3 W9 Pre Post)
    {g : JFrame} (hg : g.method = m) (hsize : g.locals.size = c.maxLocals) {argsL rest : List Value} (hlen : ∀ sig, parseMethodDescriptor y.desc = some sig → argsL.length = sig.parameters.length)
    (hstack : g.stack = argsL.reverse ++ rest) (hW : 2 * g.monitorRoom + (rest.map fun v => v.category).sum ≤ W9) (hdg : decode c.code g.pc = .ok (.invokestatic index, 3))
    (hpre : ∀ vm₁, s.WarmedH vm₁ → Pre ⟨T.setVm vm₁, locs, cells, slots⟩ argsL.toArray) :
    ∃ (v : Option Value) (vm₁ : Vm) (B : Pt), s.WarmedH vm₁ ∧ Stand p l e R s m args below meth c B.U B.locs B.cells B.slots ∧ Post ⟨T.setVm vm₁, locs, cells, slots⟩ argsL.toArray v B ∧
      ∀ target, Steps p.tables e below (B.U.setTop { g with pc := g.pc + 3, stack := v.toList ++ rest }) target → Steps p.tables e below (T.setTop g) target := by
  obtain ⟨mk, methM, cM, hnamed, hmethM, -, -, -, -, -, -, hsigM⟩ := Cond.codeWith_spec hcode
  have hstatic : methM.isStatic = true := Cond.static_spec hnamed hmethM hstat
  obtain ⟨kP, hkP, -⟩ := className_of_methodNamed hnamed
  have hinitP : kP.init = .initialized := Cond.initialized_spec (findClass_of_methodNamed hnamed) hkP hinit
  obtain ⟨vm₁, X₁, hstep₁⟩ := X.invokestatic hexec hown hlink hnamed hmethM hstatic hkP hinitP hy (g := g) hg (argsL := argsL) (rest := rest) (hlen _ hsigM) hstack hdg
  obtain ⟨v, B, X', hpost, hsteps⟩ := hK m meth c ⟨T.setVm vm₁, locs, cells, slots⟩ { g with stack := rest } (.invokestatic index) mk argsL.toArray X₁ hg hsize hdg hW (X₁.named hnamed) (hpre vm₁ X₁.warmed)
  exact ⟨v, vm₁, B, X₁.warmed, X', hpost, fun target h => hstep₁ _ fun acts => by rw [doInvoke_state]; exact hsteps.trans h⟩
theorem vx_runSW {y : MethodName} {bytes cc : ByteArray} {maxL nL mc ms n index : Nat} {ret : Option FieldType} {hh : List (Nat × Nat × Nat × Nat)} {ws : List Cond} {rm : Room} {Pc : Array Value → State → Prop} {Qc : Array Value → State → Outcome → State → Prop} {free : Addr → Prop} {Ts : List Cond} {own : String} {As rest : List Value} {g : JFrame}
    (S : CallFix p m c cc nL s args Ts own) (hM : Met l y ws rm Pc Qc mc ms free) (cw : vx_CSW R s args own index y bytes maxL ret hh ws rm mc ms n) (hp : PreS s H Pc As)
    (hg : g.method = m) (hn : As.length = n) (hsize : g.locals.size = nL) (hstack : g.stack = As.reverse ++ rest) (hW : 2 * g.monitorRoom + (rest.map fun v => v.category).sum ≤ 8) (hdg : decode cc g.pc = .ok (.invokestatic index, 3)) (hf : cells + mc ≤ R.cells ∧ slots + ms ≤ R.slots) :
    va_Run p l e R s m args below meth c H locs cells slots mc ms g rest (Qc As.toArray) (free) := by
  obtain ⟨⟨hrc, hrs, hfr, hlo, hws, hcw⟩, hcode, hini, hy, hlen, hl, hstt⟩ := cw
  have hK : Back l R p e below s args y 3 8 (PreOf R mc ms Pc) (PostOf Qc mc ms free) := va_backW (hh := hh) (bytes := bytes) (maxL := maxL) (ret := ret) hM hp.1 hrc hrs hfr hlo hws hcw (fun a' U hW => word_at hW (Or.inl (by first | rfl | simp [Cond.onTables, Cond.keeps, Cond.steady])) hini)
  obtain ⟨hx, hb, hml, ho, -⟩ := S
  intro T hT X
  obtain ⟨v, vm₁, ⟨U', l2, c2, s2⟩, hW₁, X', ⟨g', mk, t, L, e1, e2, hq, h1, hL, h2, h3⟩, st⟩ := vx_callSW X hx (hh := hh) (bytes := bytes) (maxL := maxL) (ret := ret) ho hl hstt hini hcode hy hK hg (hsize.trans hml.symm) (argsL := As) (rest := rest) (fun sig h => hn.trans (hlen sig h)) hstack hW (by rw [hb]; exact hdg)
    (fun vm₁ hW₁ => ⟨hf.1, hf.2, hp.2 (T.setVm vm₁) hT hW₁⟩)
  dsimp only [Pt.U, Pt.locs, Pt.cells, Pt.slots] at X' e1 e2 h1 h2 h3 st
  subst h1; subst h2; subst h3
  exact ⟨v, (T.setVm vm₁).calling g' mk As.toArray, t, U', L, hT, X', hL, e1, e2, hq, st⟩
/-- a thing of a world lies in the heap -/
theorem vx_lt {D : va_G} {cl : List vw_C} {ws : va_W} {H1 : Heap} (h : va_P D cl ws H1) {k : Nat} {q : Nat × va_E} (hk : ws[k]? = some q) : q.1 < H1.size := (h k q hk).lt
end VXS
/-! ===== END ===== -/
/-! ===== BEGIN methods with a table of their own: called by a name, returning or throwing ===== -/
section VXH
/-! vx_backW, vx_callVX, vx_callSX, vx_callVW, vx_runVW, vx_runVX, vx_runSX, vx_ofWH follow the same proofs as their sisters above (Free/Laws.lean, Shelf42/LK1.lean); vx_outP calls Shelf42/NT130.lean (outThrough). -/
section
variable {l : Launch} {R : Room} {p : Program} {e : Env} {below : List Frame} {s : State} {sargs : Array Value} {y : MethodName} {len W9 : Nat}
theorem vx_backW {ws : List Cond} {rm : Room} {Pc : Array Value → State → Prop} {Qc : Array Value → State → Outcome → State → Prop} {XC : String → State → State → Prop} {mc ms : Nat} {free : Addr → Prop} {bytes : ByteArray} {maxL : Nat} {ret : Option FieldType} {hh : List (Nat × Nat × Nat × Nat)}
    (hM : vx_Met l y ws rm Pc Qc XC mc ms free) (hblind : FrameBlind Pc) (hrc : rm.cells = mc) (hrs : rm.slots = ms)
    (hframes : rm.frames + 1 ≤ R.frames) (hlocals : W9 + (maxL + 11) + rm.locals ≤ R.locals)
    (hws : ∀ w ∈ ws, ∀ a' U, s.WarmedH U.vm → w.before a' U = true) (hcode : Cond.codeWith y bytes maxL ret hh ∈ ws) (hinit : ∀ a' U, s.WarmedH U.vm → (Cond.initialized y.cls).before a' U = true) :
    vx_Back l R p e below s sargs y len W9 (PreOf R mc ms Pc) (PostOf Qc mc ms free) (vx_Post XC mc ms free) := by
  intro m meth c A g ig mk a X hg hsize hdg hW hn hp
  have h1 : (headSpec ws rm).pre.before a A.U = true := atoms_intro fun w hw => hws w hw _ _ X.warmed
  have h2 : (Cond.codeWith y bytes maxL ret hh).before a A.U = true := hws _ hcode _ _ X.warmed
  have h3 : (Cond.initialized y.cls).before a A.U = true := hinit _ _ X.warmed
  have h4 : A.cells + (headSpec ws rm).room.cells ≤ R.cells := by rw [show (headSpec ws rm).room.cells = mc from hrc]; exact hp.1
  have h5 : A.slots + (headSpec ws rm).room.slots ≤ R.slots := by rw [show (headSpec ws rm).room.slots = ms from hrs]; exact hp.2.1
  have hPc : Pc a (A.U.calling g mk a) := hblind _ _ _ _ hp.2.2
  obtain ⟨U, Ls, c0, s0⟩ := A
  dsimp only [Pt.U, Pt.locs, Pt.cells, Pt.slots] at h1 h2 h3 h4 h5 X hn hPc ⊢
  obtain ⟨m9, methY, cY, hn9, hmY, hcY, -, hlY, -⟩ := Cond.codeWith_spec h2
  cases Option.some.inj (hn9.symm.trans hn)
  obtain ⟨kY, hkY, -⟩ := className_of_methodNamed hn
  have hinitY : kY.init = .initialized := Cond.initialized_spec (findClass_of_methodNamed hn) hkY h3
  have h : At U g.method c below := by rw [hg]; exact X.here
  have hlocals9 : W9 + (maxL + 11) + (headSpec ws rm).room.locals ≤ R.locals := hlocals
  have happ : (headSpec ws rm).appliesLoose y e.platform (U.calling g mk a) = true :=
    Spec.appliesLoose_calling (g := g) h hdg hn hkY hinitY
      (X.room_calling (g := g) (R' := (headSpec ws rm).room) hsize hmY hcY hframes (by rw [hlY]; omega) h4 h5) h1
  obtain ⟨mid, hmid⟩ := h.above
  have hfr : (U.setTop g).frames = (.java g :: mid) ++ below := by rw [State.frames_setTop' g h.top, hmid]; rfl
  obtain ⟨o, s₂, hsteps, -, hend, hq⟩ := Steps.callFree hM p X.admits X.cas X.clock (acts := []) hfr happ hPc trivial
  have hq' : vx_Q Qc XC mc ms free a (U.calling g mk a) o s₂ := hq
  rw [State.frames_setTop' g h.top] at hend
  obtain ⟨g₀, hg0⟩ := Option.isSome_iff_exists.mp h.top
  obtain ⟨r, hr⟩ := State.topJava?_eq_some.mp hg0
  have hr' : (({ U with heap := s₂.heap, slotsUsed := s₂.slotsUsed } : State).setVm s₂.vm).frames = .java g₀ :: r := hr
  rcases hq' with ⟨hqc, L, hfe, hL⟩ | ⟨q, rfl, E, ce, L, hx, hce, hcv, hcl, hW₂, hsm, hL⟩
  · obtain ⟨⟨v, rfl⟩, hW₂, e2, q2, q3, q4, q5, q6⟩ := id hfe
    have e3 : s₂ = ({ (U.calling g mk a).setFrames s₂.frames with heap := s₂.heap, slotsUsed := s₂.slotsUsed } : State).setVm s₂.vm := by
      have : s₂ = ({ s₂ with vm := (U.calling g mk a).vm } : State).setVm s₂.vm := rfl
      rw [e2] at this
      exact this
    obtain ⟨c₂, i₂, len₂, hc₂, hd₂, hf₂⟩ := hend
    have hW' : U.WarmedH s₂.vm := hW₂
    have hcc : c₂ = c := by
      have h1 : s₂.code? g.method = U.code? g.method := by
        rw [State.code?_eq, State.code?_eq, hW'.alike.method?]
      exact Option.some.inj (hc₂.symm.trans (h1.trans h.code))
    subst hcc
    have hlen : len₂ = len := by rw [hdg] at hd₂; cases hd₂; rfl
    subst hlen
    have hs₂ : s₂ = (({ U with heap := s₂.heap, slotsUsed := s₂.slotsUsed } : State).setVm s₂.vm).setTop { g with pc := g.pc + len₂, stack := v.toList ++ g.stack } := by
      refine e3.trans ?_
      rw [hf₂, State.calling_eq h.top, State.setFrames_setFrames, State.setTop_of_frames _ hr', hr]
      rfl
    have hsame : U.sameButNew ({ U with heap := s₂.heap, slotsUsed := s₂.slotsUsed } : State) L mc ms := by
      refine ⟨?_, q2, q3, q4, q5, q6⟩
      obtain ⟨t, ht, -⟩ := State.frames_cons hr
      show ({ U with heap := s₂.heap, slotsUsed := s₂.slotsUsed } : State) = { U.setFrames U.frames with heap := s₂.heap, slotsUsed := s₂.slotsUsed }
      rw [State.setFrames_self ht]
    subst hg
    refine Or.inl ⟨v, ⟨(({ U with heap := s₂.heap, slotsUsed := s₂.slotsUsed } : State).setVm s₂.vm), Ls ++ L, c0 + mc, s0 + ms⟩,
      ⟨X.admits, X.cas, X.clock, X.frames, X.room, X.hears, X.method, X.code, (X.here.setHeapUsed s₂.heap s₂.slotsUsed).setVm hW'.alike, X.tail, State.WarmedH.trans X.warmed hW', X.limits, X.bytes, X.same.trans (hsame.setVm s.vm)⟩,
      ⟨g, mk, s₂, L, rfl, rfl, hqc, rfl, hL, rfl, rfl⟩, ?_⟩
    show Steps p.tables e below _ ((({ U with heap := s₂.heap, slotsUsed := s₂.slotsUsed } : State).setVm s₂.vm).setTop { g with pc := g.pc + len₂, stack := v.toList ++ g.stack })
    rw [← hs₂]
    exact hsteps
  · obtain ⟨e2, q2, q3, q4, q5, q6⟩ := id hsm
    have e3 : s₂ = ({ (U.calling g mk a).setFrames s₂.frames with heap := s₂.heap, slotsUsed := s₂.slotsUsed } : State).setVm s₂.vm := by
      have : s₂ = ({ s₂ with vm := (U.calling g mk a).vm } : State).setVm s₂.vm := rfl
      rw [e2] at this
      exact this
    have hf₂ : s₂.frames = .throwing q :: .java g :: U.frames.tail := hend
    have hW' : U.WarmedH s₂.vm := hW₂
    have hs₂ : s₂ = ((({ U with heap := s₂.heap, slotsUsed := s₂.slotsUsed } : State).setVm s₂.vm).setTop g).pushFrame (.throwing q) := by
      refine e3.trans ?_
      rw [hf₂, State.calling_eq h.top, State.setFrames_setFrames, State.pushFrame, State.frames_setTop _ hr', State.setTop_of_frames _ hr', State.setFrames_setFrames, hr]
      rfl
    have hsame : U.sameButNew ({ U with heap := s₂.heap, slotsUsed := s₂.slotsUsed } : State) L mc ms := by
      refine ⟨?_, q2, q3, q4, q5, q6⟩
      obtain ⟨t, ht, -⟩ := State.frames_cons hr
      show ({ U with heap := s₂.heap, slotsUsed := s₂.slotsUsed } : State) = { U.setFrames U.frames with heap := s₂.heap, slotsUsed := s₂.slotsUsed }
      rw [State.setFrames_self ht]
    subst hg
    refine Or.inr ⟨q, ⟨(({ U with heap := s₂.heap, slotsUsed := s₂.slotsUsed } : State).setVm s₂.vm), Ls ++ L, c0 + mc, s0 + ms⟩,
      ⟨X.admits, X.cas, X.clock, X.frames, X.room, X.hears, X.method, X.code, (X.here.setHeapUsed s₂.heap s₂.slotsUsed).setVm hW'.alike, X.tail, State.WarmedH.trans X.warmed hW', X.limits, X.bytes, X.same.trans (hsame.setVm s.vm)⟩,
      ⟨g, mk, s₂, L, E, ce, rfl, rfl, hx, hce, hcv, hcl, rfl, hL, rfl, rfl⟩, ?_⟩
    show Steps p.tables e below _ (((({ U with heap := s₂.heap, slotsUsed := s₂.slotsUsed } : State).setVm s₂.vm).setTop g).pushFrame (.throwing q))
    rw [← hs₂]
    exact hsteps
end
variable {p : Program} {l : Launch} {e : Env} {R : Room} {s : State} {m : MethodId} {args : Array Value} {below : List Frame} {meth : Method} {c : Code} {T : State} {H : Heap} {locs : List Loc} {cells slots : Nat}
theorem vx_callVX (X : Stand p l e R s m args below meth c T locs cells slots) (hexec : p.tables.exec = Jvm.exec) {own C : String} {index : Nat} {y : MethodName} {bytes : ByteArray} {maxL : Nat} {ret : Option FieldType} {hh : List (Nat × Nat × Nat × Nat)}
    (hown : s.vm.findClass own = some m.cls) (hlink : (Cond.methodLink own index y).before args s = true) (hinst : (Cond.instanceMethod y).before args s = true) (hsel : (Cond.selects C y y).before args s = true)
    (hcode : (Cond.codeWith y bytes maxL ret hh).before args s = true) (hy : y.cls ≠ "java/lang/invoke/MethodHandle" ∧ y.cls ≠ "java/lang/invoke/VarHandle")
    {W9 : Nat} {Pre : Pt → Array Value → Prop} {Post : Pt → Array Value → Option Value → Pt → Prop} {PostX : Pt → Array Value → Addr → Pt → Prop} (hK : vx_Back l R p e below s args y 3 W9 Pre Post PostX)
    {b : Addr} {cellB : Cell} (hcell : T.heap[b]? = some cellB) (hobj : cellB.vm.isStatics = false) (hcls : s.vm.findClass C = some cellB.cls)
    {g : JFrame} (hg : g.method = m) (hsize : g.locals.size = c.maxLocals) {argsL rest : List Value} (hlen : ∀ sig, parseMethodDescriptor y.desc = some sig → argsL.length = sig.parameters.length)
    (hstack : g.stack = argsL.reverse ++ .ref b :: rest) (hW : 2 * g.monitorRoom + (rest.map fun v => v.category).sum ≤ W9) (hdg : decode c.code g.pc = .ok (.invokevirtual index, 3))
    (hpre : ∀ vm₁, s.WarmedH vm₁ → Pre ⟨T.setVm vm₁, locs, cells, slots⟩ (Value.ref b :: argsL).toArray) :
    (∃ (v : Option Value) (vm₁ : Vm) (B : Pt), s.WarmedH vm₁ ∧ Stand p l e R s m args below meth c B.U B.locs B.cells B.slots ∧ Post ⟨T.setVm vm₁, locs, cells, slots⟩ (Value.ref b :: argsL).toArray v B ∧
      ∀ target, Steps p.tables e below (B.U.setTop { g with pc := g.pc + 3, stack := v.toList ++ rest }) target → Steps p.tables e below (T.setTop g) target) ∨
    (∃ (q : Addr) (vm₁ : Vm) (B : Pt), s.WarmedH vm₁ ∧ Stand p l e R s m args below meth c B.U B.locs B.cells B.slots ∧ PostX ⟨T.setVm vm₁, locs, cells, slots⟩ (Value.ref b :: argsL).toArray q B ∧
      Steps p.tables e below (T.setTop g) ((B.U.setTop { g with stack := rest }).pushFrame (.throwing q))) := by
  obtain ⟨mk, methM, hnamed, hmethM, hstM, habM⟩ := Cond.instanceMethod_spec hinst
  obtain ⟨m8, methM', cM, hn8, hmethM', -, -, -, -, -, -, hsigM⟩ := Cond.codeWith_spec hcode
  cases Option.some.inj (hn8.symm.trans hnamed)
  cases hmethM.symm.trans hmethM'
  obtain ⟨c2, r2, m2, q1, q2, q3, q4, kP, hkP, hkPi⟩ := Cond.selects_spec hsel
  cases hcls.symm.trans q1
  cases (State.methodFound?_of_named hnamed hy).symm.trans q2
  cases hnamed.symm.trans q3
  have hselP : selectMethod e.platform s.vm cellB.cls mk = .method mk := by rw [Launch.admits_selectMethod X.admits]; exact q4
  obtain ⟨vm₁, X₁, hstep₁⟩ := X.invokevirtual hexec hown hlink hnamed hmethM hstM hkP hkPi hy (a := b) (cell := cellB) hcell
    (fun z h => by rw [h] at hobj; cases hobj) hselP hmethM habM hkP hkPi (g := g) hg (argsL := argsL) (rest := rest) (hlen _ hsigM) hstack hdg
  rcases hK m meth c ⟨T.setVm vm₁, locs, cells, slots⟩ { g with stack := rest } (.invokevirtual index) mk (Value.ref b :: argsL).toArray X₁ hg hsize hdg hW (X₁.named hnamed) (hpre vm₁ X₁.warmed) with ⟨v, B, X', hpost, hsteps⟩ | ⟨q, B, X', hpost, hsteps⟩
  · exact Or.inl ⟨v, vm₁, B, X₁.warmed, X', hpost, fun target h => hstep₁ _ fun acts => by rw [doInvoke_state]; exact hsteps.trans h⟩
  · exact Or.inr ⟨q, vm₁, B, X₁.warmed, X', hpost, hstep₁ _ fun acts => by rw [doInvoke_state]; exact hsteps⟩
theorem vx_callSX (X : Stand p l e R s m args below meth c T locs cells slots) (hexec : p.tables.exec = Jvm.exec) {own : String} {index : Nat} {y : MethodName} {bytes : ByteArray} {maxL : Nat} {ret : Option FieldType} {hh : List (Nat × Nat × Nat × Nat)}
    (hown : s.vm.findClass own = some m.cls) (hlink : (Cond.methodLink own index y).before args s = true) (hstat : (Cond.static y).before args s = true) (hinit : (Cond.initialized y.cls).before args s = true)
    (hcode : (Cond.codeWith y bytes maxL ret hh).before args s = true) (hy : y.cls ≠ "java/lang/invoke/MethodHandle" ∧ y.cls ≠ "java/lang/invoke/VarHandle")
    {W9 : Nat} {Pre : Pt → Array Value → Prop} {Post : Pt → Array Value → Option Value → Pt → Prop} {PostX : Pt → Array Value → Addr → Pt → Prop} (hK : vx_Back l R p e below s args y 3 W9 Pre Post PostX)
    {g : JFrame} (hg : g.method = m) (hsize : g.locals.size = c.maxLocals) {argsL rest : List Value} (hlen : ∀ sig, parseMethodDescriptor y.desc = some sig → argsL.length = sig.parameters.length)
    (hstack : g.stack = argsL.reverse ++ rest) (hW : 2 * g.monitorRoom + (rest.map fun v => v.category).sum ≤ W9) (hdg : decode c.code g.pc = .ok (.invokestatic index, 3))
    (hpre : ∀ vm₁, s.WarmedH vm₁ → Pre ⟨T.setVm vm₁, locs, cells, slots⟩ argsL.toArray) :
    (∃ (v : Option Value) (vm₁ : Vm) (B : Pt), s.WarmedH vm₁ ∧ Stand p l e R s m args below meth c B.U B.locs B.cells B.slots ∧ Post ⟨T.setVm vm₁, locs, cells, slots⟩ argsL.toArray v B ∧
      ∀ target, Steps p.tables e below (B.U.setTop { g with pc := g.pc + 3, stack := v.toList ++ rest }) target → Steps p.tables e below (T.setTop g) target) ∨
    (∃ (q : Addr) (vm₁ : Vm) (B : Pt), s.WarmedH vm₁ ∧ Stand p l e R s m args below meth c B.U B.locs B.cells B.slots ∧ PostX ⟨T.setVm vm₁, locs, cells, slots⟩ argsL.toArray q B ∧
      Steps p.tables e below (T.setTop g) ((B.U.setTop { g with stack := rest }).pushFrame (.throwing q))) := by
  obtain ⟨mk, methM, cM, hnamed, hmethM, -, -, -, -, -, -, hsigM⟩ := Cond.codeWith_spec hcode
  have hstatic : methM.isStatic = true := Cond.static_spec hnamed hmethM hstat
  obtain ⟨kP, hkP, -⟩ := className_of_methodNamed hnamed
  have hinitP : kP.init = .initialized := Cond.initialized_spec (findClass_of_methodNamed hnamed) hkP hinit
  obtain ⟨vm₁, X₁, hstep₁⟩ := X.invokestatic hexec hown hlink hnamed hmethM hstatic hkP hinitP hy (g := g) hg (argsL := argsL) (rest := rest) (hlen _ hsigM) hstack hdg
  rcases hK m meth c ⟨T.setVm vm₁, locs, cells, slots⟩ { g with stack := rest } (.invokestatic index) mk argsL.toArray X₁ hg hsize hdg hW (X₁.named hnamed) (hpre vm₁ X₁.warmed) with ⟨v, B, X', hpost, hsteps⟩ | ⟨q, B, X', hpost, hsteps⟩
  · exact Or.inl ⟨v, vm₁, B, X₁.warmed, X', hpost, fun target h => hstep₁ _ fun acts => by rw [doInvoke_state]; exact hsteps.trans h⟩
  · exact Or.inr ⟨q, vm₁, B, X₁.warmed, X', hpost, hstep₁ _ fun acts => by rw [doInvoke_state]; exact hsteps⟩
theorem vx_callVW (X : Stand p l e R s m args below meth c T locs cells slots) (hexec : p.tables.exec = Jvm.exec) {own C : String} {index : Nat} {y : MethodName} {bytes : ByteArray} {maxL : Nat} {ret : Option FieldType} {hh : List (Nat × Nat × Nat × Nat)}
    (hown : s.vm.findClass own = some m.cls) (hlink : (Cond.methodLink own index y).before args s = true) (hinst : (Cond.instanceMethod y).before args s = true) (hsel : (Cond.selects C y y).before args s = true)
    (hcode : (Cond.codeWith y bytes maxL ret hh).before args s = true) (hy : y.cls ≠ "java/lang/invoke/MethodHandle" ∧ y.cls ≠ "java/lang/invoke/VarHandle")
    {W9 : Nat} {Pre : Pt → Array Value → Prop} {Post : Pt → Array Value → Option Value → Pt → Prop} (hK : Back l R p e below s args y 3 W9 Pre Post)
    {b : Addr} {cellB : Cell} (hcell : T.heap[b]? = some cellB) (hobj : cellB.vm.isStatics = false) (hcls : s.vm.findClass C = some cellB.cls)
    {g : JFrame} (hg : g.method = m) (hsize : g.locals.size = c.maxLocals) {argsL rest : List Value} (hlen : ∀ sig, parseMethodDescriptor y.desc = some sig → argsL.length = sig.parameters.length)
    (hstack : g.stack = argsL.reverse ++ .ref b :: rest) (hW : 2 * g.monitorRoom + (rest.map fun v => v.category).sum ≤ W9) (hdg : decode c.code g.pc = .ok (.invokevirtual index, 3))
    (hpre : ∀ vm₁, s.WarmedH vm₁ → Pre ⟨T.setVm vm₁, locs, cells, slots⟩ (Value.ref b :: argsL).toArray) :
    ∃ (v : Option Value) (vm₁ : Vm) (B : Pt), s.WarmedH vm₁ ∧ Stand p l e R s m args below meth c B.U B.locs B.cells B.slots ∧ Post ⟨T.setVm vm₁, locs, cells, slots⟩ (Value.ref b :: argsL).toArray v B ∧
      ∀ target, Steps p.tables e below (B.U.setTop { g with pc := g.pc + 3, stack := v.toList ++ rest }) target → Steps p.tables e below (T.setTop g) target := by
  obtain ⟨mk, methM, hnamed, hmethM, hstM, habM⟩ := Cond.instanceMethod_spec hinst
  obtain ⟨m8, methM', cM, hn8, hmethM', -, -, -, -, -, -, hsigM⟩ := Cond.codeWith_spec hcode
  cases Option.some.inj (hn8.symm.trans hnamed)
  cases hmethM.symm.trans hmethM'
  obtain ⟨c2, r2, m2, q1, q2, q3, q4, kP, hkP, hkPi⟩ := Cond.selects_spec hsel
  cases hcls.symm.trans q1
  cases (State.methodFound?_of_named hnamed hy).symm.trans q2
  cases hnamed.symm.trans q3
  have hselP : selectMethod e.platform s.vm cellB.cls mk = .method mk := by rw [Launch.admits_selectMethod X.admits]; exact q4
  obtain ⟨vm₁, X₁, hstep₁⟩ := X.invokevirtual hexec hown hlink hnamed hmethM hstM hkP hkPi hy (a := b) (cell := cellB) hcell
    (fun z h => by rw [h] at hobj; cases hobj) hselP hmethM habM hkP hkPi (g := g) hg (argsL := argsL) (rest := rest) (hlen _ hsigM) hstack hdg
  obtain ⟨v, B, X', hpost, hsteps⟩ := hK m meth c ⟨T.setVm vm₁, locs, cells, slots⟩ { g with stack := rest } (.invokevirtual index) mk (Value.ref b :: argsL).toArray X₁ hg hsize hdg hW (X₁.named hnamed) (hpre vm₁ X₁.warmed)
  exact ⟨v, vm₁, B, X₁.warmed, X', hpost, fun target h => hstep₁ _ fun acts => by rw [doInvoke_state]; exact hsteps.trans h⟩
abbrev vx_CVW (R : Room) (s : State) (args : Array Value) (own C : String) (index : Nat) (y : MethodName) (bytes : ByteArray) (maxL : Nat) (ret : Option FieldType) (hh : List (Nat × Nat × Nat × Nat)) (ws : List Cond) (rm : Room) (mc ms n : Nat) : Prop :=
  (rm.cells = mc ∧ rm.slots = ms ∧ rm.frames + 1 ≤ R.frames ∧ 8 + (maxL + 11) + rm.locals ≤ R.locals ∧ (∀ w ∈ ws, ∀ (a' : Array Value) (U : State), s.WarmedH U.vm → w.before a' U = true) ∧ Cond.codeWith y bytes maxL ret hh ∈ ws) ∧
  (Cond.codeWith y bytes maxL ret hh).before args s = true ∧ (Cond.initialized y.cls).before args s = true ∧ (y.cls ≠ "java/lang/invoke/MethodHandle" ∧ y.cls ≠ "java/lang/invoke/VarHandle") ∧
  (∀ sig, parseMethodDescriptor y.desc = some sig → n = sig.parameters.length) ∧ (Cond.methodLink own index y).before args s = true ∧ (Cond.instanceMethod y).before args s = true ∧ (Cond.selects C y y).before args s = true
theorem vx_cwVW {own C : String} {index maxL mc ms : Nat} {y : MethodName} {bytes : ByteArray} {ret : Option FieldType} {hh : List (Nat × Nat × Nat × Nat)} {Ts ws ws' : List Cond} {rm : Room} (n : Nat) (ht : ∀ w ∈ Ts, w.before args s = true) (hT : GoodIn Ts (wsV own index C y ws)) (hw : ws = Cond.codeWith y bytes maxL ret hh :: ws') (hrc : rm.cells = mc) (hrs : rm.slots = ms)
    (hd : y.cls = C ∧ y.cls ≠ "java/lang/invoke/MethodHandle" ∧ y.cls ≠ "java/lang/invoke/VarHandle" ∧ (parseMethodDescriptor y.desc).map (fun d => d.parameters.length) = some n) (hR : rm.frames + 1 ≤ R.frames ∧ 8 + (maxL + 11) + rm.locals ≤ R.locals) :
    vx_CVW R s args own C index y bytes maxL ret hh ws rm mc ms n := by
  obtain ⟨hC, hd⟩ := hd
  subst hC
  have ok : ∀ w ∈ wsV own index y.cls y ws, w.before args s = true := fun w h => ht w (hT w h).1
  have hG : GoodIn Ts ws := fun w h => hT w (by unfold wsV; exact List.mem_append_right _ h)
  have hc : Cond.codeWith y bytes maxL ret hh ∈ ws := by rw [hw]; exact List.mem_cons_self
  refine ⟨⟨hrc, hrs, hR.1, hR.2, pay_in ht hG, hc⟩, ht _ (hG _ hc).1, ok _ (by simp [wsV]), ⟨hd.1, hd.2.1⟩, fun sig h => ?_, ok _ (by simp [wsV]), ok _ (by simp [wsV]), ok _ (by simp [wsV])⟩
  have h2 := hd.2.2
  rw [h] at h2
  exact (Option.some.inj h2).symm
theorem vx_runVW {y : MethodName} {bytes cc : ByteArray} {maxL nL mc ms n index : Nat} {ret : Option FieldType} {hh : List (Nat × Nat × Nat × Nat)} {ws : List Cond} {rm : Room} {Pc : Array Value → State → Prop} {Qc : Array Value → State → Outcome → State → Prop} {free : Addr → Prop} {Ts : List Cond} {own C : String} {b : Addr} {As rest : List Value} {g : JFrame}
    (S : CallFix p m c cc nL s args Ts own) (hM : Met l y ws rm Pc Qc mc ms free) (cw : vx_CVW R s args own C index y bytes maxL ret hh ws rm mc ms n) (hp : PreV s H C b Pc As)
    (hg : g.method = m) (hn : As.length = n) (hsize : g.locals.size = nL) (hstack : g.stack = As.reverse ++ .ref b :: rest) (hW : 2 * g.monitorRoom + (rest.map fun v => v.category).sum ≤ 8) (hdg : decode cc g.pc = .ok (.invokevirtual index, 3)) (hf : cells + mc ≤ R.cells ∧ slots + ms ≤ R.slots) :
    va_Run p l e R s m args below meth c H locs cells slots mc ms g rest (Qc (Value.ref b :: As).toArray) free := by
  obtain ⟨⟨hrc, hrs, hfr, hlo, hws, hcw⟩, hcode, hini, hy, hlen, hl, hin, hse⟩ := cw
  have hK : Back l R p e below s args y 3 8 (PreOf R mc ms Pc) (PostOf Qc mc ms free) := va_backW (hh := hh) (bytes := bytes) (maxL := maxL) (ret := ret) hM hp.1 hrc hrs hfr hlo hws hcw (fun a' U hW => word_at hW (Or.inl (by first | rfl | simp [Cond.onTables, Cond.keeps, Cond.steady])) hini)
  obtain ⟨hx, hb, hml, ho, -⟩ := S
  obtain ⟨-, ⟨cellB, hcB, hoB, hclB⟩, hPc⟩ := hp
  intro T hT X
  obtain ⟨v, vm₁, ⟨U', l2, c2, s2⟩, hW₁, X', ⟨g', mk, t, L, e1, e2, hq, h1, hL, h2, h3⟩, st⟩ := vx_callVW X hx (C := C) (hh := hh) (bytes := bytes) (maxL := maxL) (ret := ret) ho hl hin hse hcode hy hK (by rw [hT]; exact hcB) hoB hclB hg (hsize.trans hml.symm) (argsL := As) (rest := rest) (fun sig h => hn.trans (hlen sig h)) hstack hW (by rw [hb]; exact hdg)
    (fun vm₁ hW₁ => ⟨hf.1, hf.2, hPc (T.setVm vm₁) hT hW₁⟩)
  dsimp only [Pt.U, Pt.locs, Pt.cells, Pt.slots] at X' e1 e2 h1 h2 h3 st
  subst h1; subst h2; subst h3
  exact ⟨v, (T.setVm vm₁).calling g' mk (Value.ref b :: As).toArray, t, U', L, hT, X', hL, e1, e2, hq, st⟩
section
variable {y : MethodName} {bytes cc : ByteArray} {maxL nL mc ms n index : Nat} {ret : Option FieldType} {ws : List Cond} {rm : Room} {Pc : Array Value → State → Prop} {Qc : Array Value → State → Outcome → State → Prop} {XC : String → State → State → Prop} {free : Addr → Prop} {Ts : List Cond} {own C : String} {b : Addr} {As rest : List Value} {g : JFrame}
theorem vx_runVX {hh : List (Nat × Nat × Nat × Nat)} (S : CallFix p m c cc nL s args Ts own) (hM : vx_Met l y ws rm Pc Qc XC mc ms free) (cw : vx_CVW R s args own C index y bytes maxL ret hh ws rm mc ms n) (hp : PreV s H C b Pc As)
    (hg : g.method = m) (hn : As.length = n) (hsize : g.locals.size = nL) (hstack : g.stack = As.reverse ++ .ref b :: rest) (hW : 2 * g.monitorRoom + (rest.map fun v => v.category).sum ≤ 8) (hdg : decode cc g.pc = .ok (.invokevirtual index, 3)) (hf : cells + mc ≤ R.cells ∧ slots + ms ≤ R.slots) :
    vx_Run p l e R s m args below meth c H locs cells slots mc ms g rest (Qc (Value.ref b :: As).toArray) XC free := by
  obtain ⟨⟨hrc, hrs, hfr, hlo, hws, hcw⟩, hcode, hini, hy, hlen, hl, hin, hse⟩ := cw
  have hK : vx_Back l R p e below s args y 3 8 (PreOf R mc ms Pc) (PostOf Qc mc ms free) (vx_Post XC mc ms free) := vx_backW (hh := hh) (bytes := bytes) (maxL := maxL) (ret := ret) hM hp.1 hrc hrs hfr hlo hws hcw (fun a' U hW => word_at hW (Or.inl (by first | rfl | simp [Cond.onTables, Cond.keeps, Cond.steady])) hini)
  obtain ⟨hx, hb, hml, ho, -⟩ := S
  obtain ⟨-, ⟨cellB, hcB, hoB, hclB⟩, hPc⟩ := hp
  intro T hT X
  rcases vx_callVX X hx (C := C) (hh := hh) (bytes := bytes) (maxL := maxL) (ret := ret) ho hl hin hse hcode hy hK (by rw [hT]; exact hcB) hoB hclB hg (hsize.trans hml.symm) (argsL := As) (rest := rest) (fun sig h => hn.trans (hlen sig h)) hstack hW (by rw [hb]; exact hdg)
    (fun vm₁ hW₁ => ⟨hf.1, hf.2, hPc (T.setVm vm₁) hT hW₁⟩) with ⟨v, vm₁, ⟨U', l2, c2, s2⟩, hW₁, X', ⟨g', mk, t, L, e1, e2, hq, h1, hL, h2, h3⟩, st⟩ | ⟨q, vm₁, ⟨U', l2, c2, s2⟩, hW₁, X', ⟨g', mk, t, L, E, ce, e1, e2, hq, hce, hcv, hcl, h1, hL, h2, h3⟩, st⟩
  · dsimp only [Pt.U, Pt.locs, Pt.cells, Pt.slots] at X' e1 e2 h1 h2 h3 st
    subst h1; subst h2; subst h3
    exact Or.inl ⟨v, (T.setVm vm₁).calling g' mk (Value.ref b :: As).toArray, t, U', L, hT, X', hL, e1, e2, hq, st⟩
  · dsimp only [Pt.U, Pt.locs, Pt.cells, Pt.slots] at X' e1 e2 h1 h2 h3 st hcl
    subst h1; subst h2; subst h3
    exact Or.inr ⟨q, (T.setVm vm₁).calling g' mk (Value.ref b :: As).toArray, t, U', L, E, ce, hT, X', hL, e1, e2, hq, hce, hcv, vx_cls hW₁ hcl, st⟩
theorem vx_runSX {hh : List (Nat × Nat × Nat × Nat)} (S : CallFix p m c cc nL s args Ts own) (hM : vx_Met l y ws rm Pc Qc XC mc ms free) (cw : vx_CSW R s args own index y bytes maxL ret hh ws rm mc ms n) (hp : PreS s H Pc As)
    (hg : g.method = m) (hn : As.length = n) (hsize : g.locals.size = nL) (hstack : g.stack = As.reverse ++ rest) (hW : 2 * g.monitorRoom + (rest.map fun v => v.category).sum ≤ 8) (hdg : decode cc g.pc = .ok (.invokestatic index, 3)) (hf : cells + mc ≤ R.cells ∧ slots + ms ≤ R.slots) :
    vx_Run p l e R s m args below meth c H locs cells slots mc ms g rest (Qc As.toArray) XC free := by
  obtain ⟨⟨hrc, hrs, hfr, hlo, hws, hcw⟩, hcode, hini, hy, hlen, hl, hstt⟩ := cw
  have hK : vx_Back l R p e below s args y 3 8 (PreOf R mc ms Pc) (PostOf Qc mc ms free) (vx_Post XC mc ms free) := vx_backW (hh := hh) (bytes := bytes) (maxL := maxL) (ret := ret) hM hp.1 hrc hrs hfr hlo hws hcw (fun a' U hW => word_at hW (Or.inl (by first | rfl | simp [Cond.onTables, Cond.keeps, Cond.steady])) hini)
  obtain ⟨hx, hb, hml, ho, -⟩ := S
  intro T hT X
  rcases vx_callSX X hx (hh := hh) (bytes := bytes) (maxL := maxL) (ret := ret) ho hl hstt hini hcode hy hK hg (hsize.trans hml.symm) (argsL := As) (rest := rest) (fun sig h => hn.trans (hlen sig h)) hstack hW (by rw [hb]; exact hdg)
    (fun vm₁ hW₁ => ⟨hf.1, hf.2, hp.2 (T.setVm vm₁) hT hW₁⟩) with ⟨v, vm₁, ⟨U', l2, c2, s2⟩, hW₁, X', ⟨g', mk, t, L, e1, e2, hq, h1, hL, h2, h3⟩, st⟩ | ⟨q, vm₁, ⟨U', l2, c2, s2⟩, hW₁, X', ⟨g', mk, t, L, E, ce, e1, e2, hq, hce, hcv, hcl, h1, hL, h2, h3⟩, st⟩
  · dsimp only [Pt.U, Pt.locs, Pt.cells, Pt.slots] at X' e1 e2 h1 h2 h3 st
    subst h1; subst h2; subst h3
    exact Or.inl ⟨v, (T.setVm vm₁).calling g' mk As.toArray, t, U', L, hT, X', hL, e1, e2, hq, st⟩
  · dsimp only [Pt.U, Pt.locs, Pt.cells, Pt.slots] at X' e1 e2 h1 h2 h3 st hcl
    subst h1; subst h2; subst h3
    exact Or.inr ⟨q, (T.setVm vm₁).calling g' mk As.toArray, t, U', L, E, ce, hT, X', hL, e1, e2, hq, hce, hcv, vx_cls hW₁ hcl, st⟩
end
end VXH
theorem vx_ofWH {l : Launch} {y : MethodName} {ws ws' : List Cond} {rm : Room} {Pc : Array Value → State → Prop} {Qc : Array Value → State → Outcome → State → Prop} {XC : String → State → State → Prop} {mc ms : Nat} {free : Addr → Prop} {cc : ByteArray} {maxL : Nat} {ret : Option FieldType} {hh : List (Nat × Nat × Nat × Nat)}
    (hy : plainName y.cls = true) (hw : ws = Cond.codeWith y cc maxL ret hh :: ws')
    (body : ∀ p e s m args below meth c s₁, BodyLoose p l y (headSpec ws rm) cc maxL ret e s m args below meth c s₁ → c.maxLocals = maxL → Pc args s →
      W p l e (headSpec ws rm).room s m args below meth c s.heap [] 0 0 (vx_MQ below Qc XC args s mc ms free) (entryFrame m args maxL)) : vx_Met l y ws rm Pc Qc XC mc ms free := by
  refine MetFree.of_bodyS (code := cc) (maxLocals := maxL) (ret := ret) hy ?_ ?_
  · intro args s m h hn
    obtain ⟨m9, meth, c, hn9, h1, h2, h3, h4, -, h5, h6, -⟩ := Cond.codeWith_spec (atoms_spec (ws := ws) h _ (by rw [hw]; exact List.mem_cons_self))
    cases hn.symm.trans hn9
    exact ⟨meth, c, h1, h2, h3, h4, h5, h6⟩
  · intro p e s m args below meth c s₁ B hml hP _
    have hh0 : s₁.heap = s.heap := by rw [B.state]; rfl
    obtain ⟨t, a1, o, b1, b2, b3⟩ := body p e s m args below meth c s₁ B hml hP s₁ hh0 (Stand.of_body B)
    exact ⟨t, o, a1, b1, b2, b3⟩
/-! ===== END ===== -/
end
section
/-! ===== BEGIN printed: names, fields, word lists, decode rows ===== -/
def RX0 : String := "ColumnDesk$Items"
def TX0 : u_T := fun k => match k with
  | 0 => ("ColumnDesk$Items", "cells", "[I", false)
  | _ => ("ColumnDesk$Items", "size", "I", false)
def tyX0 : Nat → FieldType := fun k => match k with
  | 0 => .array .int
  | _ => .int
abbrev wsX00 : List Cond := u_ws RX0 TX0 2
theorem nmX0 : ∀ a, a < 2 → ∀ b, b < 2 → a ≠ b → (TX0 a).2.1 ≠ (TX0 b).2.1 := by decide +kernel
theorem tyX0_ok : ∀ k, k < 2 → parseFieldDescriptor (TX0 k).2.2.1 = some (tyX0 k) := by decide +kernel
abbrev cX0_init : ByteArray := prog_2_method_1_code
def yX0_init : MethodName := ⟨RX0, "<init>", "(I)V"⟩
abbrev cX0_size : ByteArray := prog_2_method_2_code
def yX0_size : MethodName := ⟨RX0, "size", "()I"⟩
abbrev cX0_at : ByteArray := prog_2_method_3_code
def yX0_at : MethodName := ⟨RX0, "at", "(II)I"⟩
abbrev cX0_put : ByteArray := prog_2_method_4_code
def yX0_put : MethodName := ⟨RX0, "put", "(III)V"⟩
abbrev cX0_append : ByteArray := prog_2_method_5_code
def yX0_append : MethodName := ⟨RX0, "append", "()I"⟩
abbrev cX0_makePlain : ByteArray := prog_2_method_6_code
def yX0_makePlain : MethodName := ⟨RX0, "makePlain", "(III)V"⟩
abbrev cX0_makeSolid : ByteArray := prog_2_method_7_code
def yX0_makeSolid : MethodName := ⟨RX0, "makeSolid", "(IIIIII)V"⟩
abbrev cX0_makeGlue : ByteArray := prog_2_method_8_code
def yX0_makeGlue : MethodName := ⟨RX0, "makeGlue", "(IIIII)V"⟩
abbrev cX0_copyFrom : ByteArray := prog_2_method_9_code
def yX0_copyFrom : MethodName := ⟨RX0, "copyFrom", "(LColumnDesk$Items;II)V"⟩
abbrev cX0_dropFirst : ByteArray := prog_2_method_10_code
def yX0_dropFirst : MethodName := ⟨RX0, "dropFirst", "(I)V"⟩
abbrev cX0_clear : ByteArray := prog_2_method_11_code
def yX0_clear : MethodName := ⟨RX0, "clear", "()V"⟩
abbrev cX0_makeRoom : ByteArray := prog_2_method_12_code
def yX0_makeRoom : MethodName := ⟨RX0, "makeRoom", "(I)V"⟩
def RX1 : String := "ColumnDesk$MadePage"
def TX1 : u_T := fun k => match k with
  | 0 => ("ColumnDesk$MadePage", "items", "LColumnDesk$Items;", true)
  | 1 => ("ColumnDesk$MadePage", "height", "I", false)
  | 2 => ("ColumnDesk$MadePage", "depth", "I", false)
  | _ => ("ColumnDesk$MadePage", "width", "I", false)
def tyX1 : Nat → FieldType := fun k => match k with
  | 0 => .object "ColumnDesk$Items"
  | 1 => .int
  | 2 => .int
  | _ => .int
abbrev wsX10 : List Cond := u_ws RX1 TX1 4
theorem nmX1 : ∀ a, a < 4 → ∀ b, b < 4 → a ≠ b → (TX1 a).2.1 ≠ (TX1 b).2.1 := by decide +kernel
theorem tyX1_ok : ∀ k, k < 4 → parseFieldDescriptor (TX1 k).2.2.1 = some (tyX1 k) := by decide +kernel
abbrev cX1_init : ByteArray := prog_3_method_1_code
def yX1_init : MethodName := ⟨RX1, "<init>", "()V"⟩
abbrev cX1_make : ByteArray := prog_3_method_2_code
def yX1_make : MethodName := ⟨RX1, "make", "(LColumnDesk$Items;IIILColumnDesk$Sums;)V"⟩
abbrev cX1_setGlue : ByteArray := prog_3_method_3_code
def yX1_setGlue : MethodName := ⟨RX1, "setGlue", "(JLColumnDesk$Sums;)V"⟩
abbrev cX1_spread : ByteArray := prog_3_method_4_code
def yX1_spread : MethodName := ⟨RX1, "spread", "(JJI)V"⟩
abbrev cX1_shareOf : ByteArray := prog_3_method_5_code
def yX1_shareOf : MethodName := ⟨RX1, "shareOf", "(II)I"⟩
abbrev cX1_within : ByteArray := prog_3_method_6_code
def yX1_within : MethodName := ⟨RX1, "within", "(J)I"⟩
def RX2 : String := "ColumnDesk$Page"
def TX2 : u_T := fun k => match k with
  | 0 => ("ColumnDesk$Page", "sums", "LColumnDesk$Sums;", true)
  | 1 => ("ColumnDesk$Page", "begun", "Z", false)
  | 2 => ("ColumnDesk$Page", "first", "I", false)
  | 3 => ("ColumnDesk$Page", "goal", "I", false)
  | 4 => ("ColumnDesk$Page", "best", "I", false)
  | _ => ("ColumnDesk$Page", "leastCost", "J", false)
def tyX2 : Nat → FieldType := fun k => match k with
  | 0 => .object "ColumnDesk$Sums"
  | 1 => .boolean
  | 2 => .int
  | 3 => .int
  | 4 => .int
  | _ => .long
abbrev wsX20 : List Cond := u_ws RX2 TX2 6
theorem nmX2 : ∀ a, a < 6 → ∀ b, b < 6 → a ≠ b → (TX2 a).2.1 ≠ (TX2 b).2.1 := by decide +kernel
theorem tyX2_ok : ∀ k, k < 6 → parseFieldDescriptor (TX2 k).2.2.1 = some (tyX2 k) := by decide +kernel
abbrev cX2_init : ByteArray := prog_4_method_1_code
def yX2_init : MethodName := ⟨RX2, "<init>", "()V"⟩
abbrev cX2_begin : ByteArray := prog_4_method_2_code
def yX2_begin : MethodName := ⟨RX2, "begin", "(III)V"⟩
abbrev cX2_forget : ByteArray := prog_4_method_3_code
def yX2_forget : MethodName := ⟨RX2, "forget", "()V"⟩
abbrev cX2_hasBest : ByteArray := prog_4_method_4_code
def yX2_hasBest : MethodName := ⟨RX2, "hasBest", "()Z"⟩
abbrev cX2_weigh : ByteArray := prog_4_method_5_code
def yX2_weigh : MethodName := ⟨RX2, "weigh", "(II)Z"⟩
abbrev cX2_badnessNow : ByteArray := prog_4_method_6_code
def yX2_badnessNow : MethodName := ⟨RX2, "badnessNow", "()J"⟩
abbrev cX2_costOf : ByteArray := prog_4_method_7_code
def yX2_costOf : MethodName := ⟨RX2, "costOf", "(JI)J"⟩
def RX3 : String := "ColumnDesk$Shelf"
def TX3 : u_T := fun k => match k with
  | 0 => ("ColumnDesk$Shelf", "pages", "[LColumnDesk$MadePage;", true)
  | 1 => ("ColumnDesk$Shelf", "kept", "I", false)
  | 2 => ("ColumnDesk$Shelf", "latest", "I", false)
  | _ => ("ColumnDesk$Shelf", "everMade", "I", false)
def tyX3 : Nat → FieldType := fun k => match k with
  | 0 => .array (.object "ColumnDesk$MadePage")
  | 1 => .int
  | 2 => .int
  | _ => .int
abbrev wsX30 : List Cond := u_ws RX3 TX3 4
theorem nmX3 : ∀ a, a < 4 → ∀ b, b < 4 → a ≠ b → (TX3 a).2.1 ≠ (TX3 b).2.1 := by decide +kernel
theorem tyX3_ok : ∀ k, k < 4 → parseFieldDescriptor (TX3 k).2.2.1 = some (tyX3 k) := by decide +kernel
abbrev cX3_init : ByteArray := prog_5_method_1_code
def yX3_init : MethodName := ⟨RX3, "<init>", "()V"⟩
abbrev cX3_put : ByteArray := prog_5_method_2_code
def yX3_put : MethodName := ⟨RX3, "put", "(LColumnDesk$Items;IIILColumnDesk$Sums;)V"⟩
abbrev cX3_madePage : ByteArray := prog_5_method_3_code
def yX3_madePage : MethodName := ⟨RX3, "madePage", "(I)LColumnDesk$MadePage;"⟩
abbrev cX3_held : ByteArray := prog_5_method_4_code
def yX3_held : MethodName := ⟨RX3, "held", "()I"⟩
abbrev cX3_clear : ByteArray := prog_5_method_5_code
def yX3_clear : MethodName := ⟨RX3, "clear", "()V"⟩
def RX4 : String := "ColumnDesk$Sums"
def TX4 : u_T := fun k => match k with
  | 0 => ("ColumnDesk$Sums", "stretch", "[J", true)
  | 1 => ("ColumnDesk$Sums", "shrink", "J", false)
  | 2 => ("ColumnDesk$Sums", "all", "J", false)
  | 3 => ("ColumnDesk$Sums", "depth", "J", false)
  | 4 => ("ColumnDesk$Sums", "width", "J", false)
  | _ => ("ColumnDesk$Sums", "limit", "I", false)
def tyX4 : Nat → FieldType := fun k => match k with
  | 0 => .array .long
  | 1 => .long
  | 2 => .long
  | 3 => .long
  | 4 => .long
  | _ => .int
abbrev wsX40 : List Cond := u_ws RX4 TX4 6
theorem nmX4 : ∀ a, a < 6 → ∀ b, b < 6 → a ≠ b → (TX4 a).2.1 ≠ (TX4 b).2.1 := by decide +kernel
theorem tyX4_ok : ∀ k, k < 6 → parseFieldDescriptor (TX4 k).2.2.1 = some (tyX4 k) := by decide +kernel
abbrev cX4_init : ByteArray := prog_6_method_1_code
def yX4_init : MethodName := ⟨RX4, "<init>", "()V"⟩
abbrev cX4_clear : ByteArray := prog_6_method_2_code
def yX4_clear : MethodName := ⟨RX4, "clear", "(I)V"⟩
abbrev cX4_take : ByteArray := prog_6_method_3_code
def yX4_take : MethodName := ⟨RX4, "take", "(LColumnDesk$Items;I)V"⟩
abbrev cX4_takeSolid : ByteArray := prog_6_method_4_code
def yX4_takeSolid : MethodName := ⟨RX4, "takeSolid", "(LColumnDesk$Items;I)V"⟩
abbrev cX4_takeGlue : ByteArray := prog_6_method_5_code
def yX4_takeGlue : MethodName := ⟨RX4, "takeGlue", "(LColumnDesk$Items;I)V"⟩
abbrev cX4_total : ByteArray := prog_6_method_6_code
def yX4_total : MethodName := ⟨RX4, "total", "()J"⟩
abbrev cX4_stretchOf : ByteArray := prog_6_method_7_code
def yX4_stretchOf : MethodName := ⟨RX4, "stretchOf", "(I)J"⟩
abbrev cX4_highestOrder : ByteArray := prog_6_method_8_code
def yX4_highestOrder : MethodName := ⟨RX4, "highestOrder", "()I"⟩
abbrev cX4_areSizes : ByteArray := prog_6_method_9_code
def yX4_areSizes : MethodName := ⟨RX4, "areSizes", "()Z"⟩
def RX5 : String := "ColumnDesk"
def TX5 : u_T := fun k => match k with
  | 0 => ("ColumnDesk", "toldHeight", "I", false)
  | 1 => ("ColumnDesk", "toldDepth", "I", false)
  | 2 => ("ColumnDesk", "topWidth", "I", false)
  | 3 => ("ColumnDesk", "topStretch", "I", false)
  | 4 => ("ColumnDesk", "topOrder", "I", false)
  | 5 => ("ColumnDesk", "topShrink", "I", false)
  | 6 => ("ColumnDesk", "column", "LColumnDesk$Items;", true)
  | 7 => ("ColumnDesk", "current", "LColumnDesk$Page;", true)
  | 8 => ("ColumnDesk", "shelf", "LColumnDesk$Shelf;", true)
  | 9 => ("ColumnDesk", "madeSums", "LColumnDesk$Sums;", true)
  | _ => ("ColumnDesk", "next", "I", false)
def tyX5 : Nat → FieldType := fun k => match k with
  | 0 => .int
  | 1 => .int
  | 2 => .int
  | 3 => .int
  | 4 => .int
  | 5 => .int
  | 6 => .object "ColumnDesk$Items"
  | 7 => .object "ColumnDesk$Page"
  | 8 => .object "ColumnDesk$Shelf"
  | 9 => .object "ColumnDesk$Sums"
  | _ => .int
abbrev wsX50 : List Cond := u_ws RX5 TX5 11
theorem nmX5 : ∀ a, a < 11 → ∀ b, b < 11 → a ≠ b → (TX5 a).2.1 ≠ (TX5 b).2.1 := by decide +kernel
theorem tyX5_ok : ∀ k, k < 11 → parseFieldDescriptor (TX5 k).2.2.1 = some (tyX5 k) := by decide +kernel
abbrev cX5_init : ByteArray := prog_1_method_1_code
def yX5_init : MethodName := ⟨RX5, "<init>", "()V"⟩
abbrev cX5_page : ByteArray := prog_1_method_2_code
def yX5_page : MethodName := ⟨RX5, "page", "(II)Z"⟩
abbrev cX5_top : ByteArray := prog_1_method_3_code
def yX5_top : MethodName := ⟨RX5, "top", "(IIII)Z"⟩
abbrev cX5_box : ByteArray := prog_1_method_4_code
def yX5_box : MethodName := ⟨RX5, "box", "(IIII)Z"⟩
abbrev cX5_rule : ByteArray := prog_1_method_5_code
def yX5_rule : MethodName := ⟨RX5, "rule", "(III)Z"⟩
abbrev cX5_glue : ByteArray := prog_1_method_6_code
def yX5_glue : MethodName := ⟨RX5, "glue", "(IIII)Z"⟩
abbrev cX5_kern : ByteArray := prog_1_method_7_code
def yX5_kern : MethodName := ⟨RX5, "kern", "(I)Z"⟩
abbrev cX5_penalty : ByteArray := prog_1_method_8_code
def yX5_penalty : MethodName := ⟨RX5, "penalty", "(I)Z"⟩
abbrev cX5_build : ByteArray := prog_1_method_9_code
def yX5_build : MethodName := ⟨RX5, "build", "()I"⟩
abbrev cX5_about : ByteArray := prog_1_method_10_code
def yX5_about : MethodName := ⟨RX5, "about", "(II)I"⟩
abbrev cX5_item : ByteArray := prog_1_method_11_code
def yX5_item : MethodName := ⟨RX5, "item", "(III)I"⟩
abbrev cX5_count : ByteArray := prog_1_method_12_code
def yX5_count : MethodName := ⟨RX5, "count", "(I)I"⟩
abbrev cX5_sum : ByteArray := prog_1_method_13_code
def yX5_sum : MethodName := ⟨RX5, "sum", "(I)J"⟩
abbrev cX5_addSolid : ByteArray := prog_1_method_14_code
def yX5_addSolid : MethodName := ⟨RX5, "addSolid", "(IIIII)Z"⟩
abbrev cX5_isFull : ByteArray := prog_1_method_15_code
def yX5_isFull : MethodName := ⟨RX5, "isFull", "()Z"⟩
abbrev cX5_toCome : ByteArray := prog_1_method_16_code
def yX5_toCome : MethodName := ⟨RX5, "toCome", "()I"⟩
abbrev cX5_onPage : ByteArray := prog_1_method_17_code
def yX5_onPage : MethodName := ⟨RX5, "onPage", "()I"⟩
abbrev cX5_fillPage : ByteArray := prog_1_method_18_code
def yX5_fillPage : MethodName := ⟨RX5, "fillPage", "()Z"⟩
abbrev cX5_beginPage : ByteArray := prog_1_method_19_code
def yX5_beginPage : MethodName := ⟨RX5, "beginPage", "()V"⟩
abbrev cX5_isBreak : ByteArray := prog_1_method_20_code
def yX5_isBreak : MethodName := ⟨RX5, "isBreak", "(I)Z"⟩
abbrev cX5_endsAtBreak : ByteArray := prog_1_method_21_code
def yX5_endsAtBreak : MethodName := ⟨RX5, "endsAtBreak", "(I)Z"⟩
abbrev cX5_endPage : ByteArray := prog_1_method_22_code
def yX5_endPage : MethodName := ⟨RX5, "endPage", "()Z"⟩
abbrev cX5_loseAll : ByteArray := prog_1_method_23_code
def yX5_loseAll : MethodName := ⟨RX5, "loseAll", "()V"⟩
abbrev cX5_dropUsed : ByteArray := prog_1_method_24_code
def yX5_dropUsed : MethodName := ⟨RX5, "dropUsed", "()V"⟩
abbrev cX5_isSize : ByteArray := prog_1_method_25_code
def yX5_isSize : MethodName := ⟨RX5, "isSize", "(J)Z"⟩
abbrev cX5_isGlue : ByteArray := prog_1_method_26_code
def yX5_isGlue : MethodName := ⟨RX5, "isGlue", "(IIII)Z"⟩
abbrev cX5_isSolid : ByteArray := prog_1_method_27_code
def yX5_isSolid : MethodName := ⟨RX5, "isSolid", "(I)Z"⟩
abbrev cX5_badness : ByteArray := prog_1_method_28_code
def yX5_badness : MethodName := ⟨RX5, "badness", "(JJ)J"⟩
abbrev cX5_near : ByteArray := prog_1_method_29_code
def yX5_near : MethodName := ⟨RX5, "near", "(JJ)J"⟩
def RX6 : String := "ColumnDeskModel"
def TX6 : u_T := fun k => match k with
  | 0 => ("ColumnDeskModel", "thrown", "I", false)
  | 1 => ("ColumnDeskModel", "kind", "[I", true)
  | 2 => ("ColumnDeskModel", "wide", "[I", true)
  | 3 => ("ColumnDeskModel", "high", "[I", true)
  | 4 => ("ColumnDeskModel", "deep", "[I", true)
  | 5 => ("ColumnDeskModel", "shift", "[I", true)
  | 6 => ("ColumnDeskModel", "order", "[I", true)
  | 7 => ("ColumnDeskModel", "shrink", "[I", true)
  | 8 => ("ColumnDeskModel", "more", "[J", true)
  | 9 => ("ColumnDeskModel", "coming", "I", false)
  | 10 => ("ColumnDeskModel", "there", "I", false)
  | 11 => ("ColumnDeskModel", "kept", "I", false)
  | 12 => ("ColumnDeskModel", "items", "[I", true)
  | 13 => ("ColumnDeskModel", "heights", "[I", true)
  | 14 => ("ColumnDeskModel", "depths", "[I", true)
  | 15 => ("ColumnDeskModel", "widths", "[I", true)
  | 16 => ("ColumnDeskModel", "made", "I", false)
  | 17 => ("ColumnDeskModel", "height", "I", false)
  | 18 => ("ColumnDeskModel", "limit", "I", false)
  | 19 => ("ColumnDeskModel", "topWidth", "I", false)
  | 20 => ("ColumnDeskModel", "topStretch", "I", false)
  | 21 => ("ColumnDeskModel", "topOrder", "I", false)
  | 22 => ("ColumnDeskModel", "topShrink", "I", false)
  | 23 => ("ColumnDeskModel", "goal", "I", false)
  | 24 => ("ColumnDeskModel", "most", "I", false)
  | 25 => ("ColumnDeskModel", "best", "I", false)
  | 26 => ("ColumnDeskModel", "cost", "I", false)
  | 27 => ("ColumnDeskModel", "total", "J", false)
  | 28 => ("ColumnDeskModel", "depth", "J", false)
  | 29 => ("ColumnDeskModel", "width", "J", false)
  | 30 => ("ColumnDeskModel", "shrinks", "J", false)
  | _ => ("ColumnDeskModel", "stretches", "[J", true)
def tyX6 : Nat → FieldType := fun k => match k with
  | 0 => .int
  | 1 => .array .int
  | 2 => .array .int
  | 3 => .array .int
  | 4 => .array .int
  | 5 => .array .int
  | 6 => .array .int
  | 7 => .array .int
  | 8 => .array .long
  | 9 => .int
  | 10 => .int
  | 11 => .int
  | 12 => .array .int
  | 13 => .array .int
  | 14 => .array .int
  | 15 => .array .int
  | 16 => .int
  | 17 => .int
  | 18 => .int
  | 19 => .int
  | 20 => .int
  | 21 => .int
  | 22 => .int
  | 23 => .int
  | 24 => .int
  | 25 => .int
  | 26 => .int
  | 27 => .long
  | 28 => .long
  | 29 => .long
  | 30 => .long
  | _ => .array .long
abbrev wsX60 : List Cond := u_ws RX6 TX6 32
theorem nmX6 : ∀ a, a < 32 → ∀ b, b < 32 → a ≠ b → (TX6 a).2.1 ≠ (TX6 b).2.1 := by decide +kernel
theorem tyX6_ok : ∀ k, k < 32 → parseFieldDescriptor (TX6 k).2.2.1 = some (tyX6 k) := by decide +kernel
abbrev cX6_init : ByteArray := prog_8_method_1_code
def yX6_init : MethodName := ⟨RX6, "<init>", "()V"⟩
abbrev cX6_thrown : ByteArray := prog_8_method_2_code
def yX6_thrown : MethodName := ⟨RX6, "thrown", "()I"⟩
abbrev cX6_fails : ByteArray := prog_8_method_3_code
def yX6_fails : MethodName := ⟨RX6, "fails", "()I"⟩
abbrev cX6_isSize : ByteArray := prog_8_method_4_code
def yX6_isSize : MethodName := ⟨RX6, "isSize", "(I)Z"⟩
abbrev cX6_isSizeLong : ByteArray := prog_8_method_5_code
def yX6_isSizeLong : MethodName := ⟨RX6, "isSizeLong", "(J)Z"⟩
abbrev cX6_page : ByteArray := prog_8_method_6_code
def yX6_page : MethodName := ⟨RX6, "page", "(II)Z"⟩
abbrev cX6_isGlue : ByteArray := prog_8_method_7_code
def yX6_isGlue : MethodName := ⟨RX6, "isGlue", "(IIII)Z"⟩
abbrev cX6_top : ByteArray := prog_8_method_8_code
def yX6_top : MethodName := ⟨RX6, "top", "(IIII)Z"⟩
abbrev cX6_all : ByteArray := prog_8_method_9_code
def yX6_all : MethodName := ⟨RX6, "all", "()I"⟩
abbrev cX6_write : ByteArray := prog_8_method_10_code
def yX6_write : MethodName := ⟨RX6, "write", "(IIIIIIII)V"⟩
abbrev cX6_add : ByteArray := prog_8_method_11_code
def yX6_add : MethodName := ⟨RX6, "add", "(ZIIIIIII)Z"⟩
abbrev cX6_box : ByteArray := prog_8_method_12_code
def yX6_box : MethodName := ⟨RX6, "box", "(IIII)Z"⟩
abbrev cX6_rule : ByteArray := prog_8_method_13_code
def yX6_rule : MethodName := ⟨RX6, "rule", "(III)Z"⟩
abbrev cX6_glue : ByteArray := prog_8_method_14_code
def yX6_glue : MethodName := ⟨RX6, "glue", "(IIII)Z"⟩
abbrev cX6_kern : ByteArray := prog_8_method_15_code
def yX6_kern : MethodName := ⟨RX6, "kern", "(I)Z"⟩
abbrev cX6_penalty : ByteArray := prog_8_method_16_code
def yX6_penalty : MethodName := ⟨RX6, "penalty", "(I)Z"⟩
abbrev cX6_move : ByteArray := prog_8_method_17_code
def yX6_move : MethodName := ⟨RX6, "move", "(II)V"⟩
abbrev cX6_take : ByteArray := prog_8_method_18_code
def yX6_take : MethodName := ⟨RX6, "take", "(I)V"⟩
abbrev cX6_isSolid : ByteArray := prog_8_method_19_code
def yX6_isSolid : MethodName := ⟨RX6, "isSolid", "(I)Z"⟩
abbrev cX6_sums : ByteArray := prog_8_method_20_code
def yX6_sums : MethodName := ⟨RX6, "sums", "(III)V"⟩
abbrev cX6_badness : ByteArray := prog_8_method_21_code
def yX6_badness : MethodName := ⟨RX6, "badness", "(JJ)I"⟩
abbrev cX6_weight : ByteArray := prog_8_method_22_code
def yX6_weight : MethodName := ⟨RX6, "weight", "()I"⟩
abbrev cX6_near : ByteArray := prog_8_method_23_code
def yX6_near : MethodName := ⟨RX6, "near", "(JJ)J"⟩
abbrev cX6_share : ByteArray := prog_8_method_24_code
def yX6_share : MethodName := ⟨RX6, "share", "(IIJ)V"⟩
abbrev cX6_forget : ByteArray := prog_8_method_25_code
def yX6_forget : MethodName := ⟨RX6, "forget", "()V"⟩
abbrev cX6_end : ByteArray := prog_8_method_26_code
def yX6_end : MethodName := ⟨RX6, "end", "(I)Z"⟩
abbrev cX6_begin : ByteArray := prog_8_method_27_code
def yX6_begin : MethodName := ⟨RX6, "begin", "()V"⟩
abbrev cX6_come : ByteArray := prog_8_method_28_code
def yX6_come : MethodName := ⟨RX6, "come", "()I"⟩
abbrev cX6_build : ByteArray := prog_8_method_29_code
def yX6_build : MethodName := ⟨RX6, "build", "()I"⟩
abbrev cX6_about : ByteArray := prog_8_method_30_code
def yX6_about : MethodName := ⟨RX6, "about", "(II)I"⟩
abbrev cX6_item : ByteArray := prog_8_method_31_code
def yX6_item : MethodName := ⟨RX6, "item", "(III)I"⟩
abbrev cX6_count : ByteArray := prog_8_method_32_code
def yX6_count : MethodName := ⟨RX6, "count", "(I)I"⟩
abbrev cX6_sum : ByteArray := prog_8_method_33_code
def yX6_sum : MethodName := ⟨RX6, "sum", "(I)J"⟩
def RJx8e188 : String := "java/lang/Cloneable"
def TJx8e188 : u_T := fun k => match k with
  | _ => ("", "", "", false)
def tyJx8e188 : Nat → FieldType := fun k => match k with
  | _ => .int
abbrev wsJx8e1880 : List Cond := u_ws RJx8e188 TJx8e188 0
theorem nmJx8e188 : ∀ a, a < 0 → ∀ b, b < 0 → a ≠ b → (TJx8e188 a).2.1 ≠ (TJx8e188 b).2.1 := by decide +kernel
theorem tyJx8e188_ok : ∀ k, k < 0 → parseFieldDescriptor (TJx8e188 k).2.2.1 = some (tyJx8e188 k) := by decide +kernel
def RJ9 : String := "java/lang/Math"
def TJ9 : u_T := fun k => match k with
  | _ => ("", "", "", false)
def tyJ9 : Nat → FieldType := fun k => match k with
  | _ => .int
abbrev wsJ90 : List Cond := u_ws RJ9 TJ9 0
theorem nmJ9 : ∀ a, a < 0 → ∀ b, b < 0 → a ≠ b → (TJ9 a).2.1 ≠ (TJ9 b).2.1 := by decide +kernel
theorem tyJ9_ok : ∀ k, k < 0 → parseFieldDescriptor (TJ9 k).2.2.1 = some (tyJ9 k) := by decide +kernel
abbrev cJ9_floorMod_7cf53 : ByteArray := prog_12_method_50_code
def yJ9_floorMod_7cf53 : MethodName := ⟨RJ9, "floorMod", "(II)I"⟩
abbrev cJ9_abs_067f4 : ByteArray := prog_12_method_61_code
def yJ9_abs_067f4 : MethodName := ⟨RJ9, "abs", "(J)J"⟩
abbrev cJ9_max_7cf53 : ByteArray := prog_12_method_65_code
def yJ9_max_7cf53 : MethodName := ⟨RJ9, "max", "(II)I"⟩
abbrev cJ9_max_f86c9 : ByteArray := prog_12_method_66_code
def yJ9_max_f86c9 : MethodName := ⟨RJ9, "max", "(JJ)J"⟩
abbrev cJ9_min_7cf53 : ByteArray := prog_12_method_69_code
def yJ9_min_7cf53 : MethodName := ⟨RJ9, "min", "(II)I"⟩
abbrev cJ9_min_f86c9 : ByteArray := prog_12_method_70_code
def yJ9_min_f86c9 : MethodName := ⟨RJ9, "min", "(JJ)J"⟩
def RJ0 : String := "java/lang/String"
def TJ0 : u_T := fun k => match k with
  | _ => ("", "", "", false)
def tyJ0 : Nat → FieldType := fun k => match k with
  | _ => .int
abbrev wsJ00 : List Cond := u_ws RJ0 TJ0 0
theorem nmJ0 : ∀ a, a < 0 → ∀ b, b < 0 → a ≠ b → (TJ0 a).2.1 ≠ (TJ0 b).2.1 := by decide +kernel
theorem tyJ0_ok : ∀ k, k < 0 → parseFieldDescriptor (TJ0 k).2.2.1 = some (tyJ0 k) := by decide +kernel
def RJ10 : String := "java/lang/System"
def TJ10 : u_T := fun k => match k with
  | _ => ("", "", "", false)
def tyJ10 : Nat → FieldType := fun k => match k with
  | _ => .int
abbrev wsJ100 : List Cond := u_ws RJ10 TJ10 0
theorem nmJ10 : ∀ a, a < 0 → ∀ b, b < 0 → a ≠ b → (TJ10 a).2.1 ≠ (TJ10 b).2.1 := by decide +kernel
theorem tyJ10_ok : ∀ k, k < 0 → parseFieldDescriptor (TJ10 k).2.2.1 = some (tyJ10 k) := by decide +kernel
def RJ7 : String := "java/util/Arrays"
def TJ7 : u_T := fun k => match k with
  | _ => ("", "", "", false)
def tyJ7 : Nat → FieldType := fun k => match k with
  | _ => .int
abbrev wsJ70 : List Cond := u_ws RJ7 TJ7 0
theorem nmJ7 : ∀ a, a < 0 → ∀ b, b < 0 → a ≠ b → (TJ7 a).2.1 ≠ (TJ7 b).2.1 := by decide +kernel
theorem tyJ7_ok : ∀ k, k < 0 → parseFieldDescriptor (TJ7 k).2.2.1 = some (tyJ7 k) := by decide +kernel
abbrev cJ7_fill_d0a16 : ByteArray := prog_18_method_101_code
def yJ7_fill_d0a16 : MethodName := ⟨RJ7, "fill", "([JJ)V"⟩
abbrev cJ7_copyOf_59c91 : ByteArray := prog_18_method_123_code
def yJ7_copyOf_59c91 : MethodName := ⟨RJ7, "copyOf", "([II)[I"⟩
def RL : String := "ColumnDeskLaw"
abbrev cL_build : ByteArray := method_3_code
def yL_build : MethodName := ⟨RL, "build", "(LColumnDesk;[J)I"⟩
abbrev cL_about : ByteArray := method_4_code
def yL_about : MethodName := ⟨RL, "about", "(LColumnDesk;II[J)I"⟩
abbrev cL_item : ByteArray := method_5_code
def yL_item : MethodName := ⟨RL, "item", "(LColumnDesk;III[J)I"⟩
abbrev cL_law : ByteArray := code
def yL_law : MethodName := ⟨RL, "law", "([I)Z"⟩
def wsX0_init : List Cond := .code yX0_init cX0_init 2 none :: ([.methodLink RX0 3 objectInit, .instanceMethod objectInit, .code objectInit ⟨#[0xb1]⟩ 1 none, .arrayClass .int, .fieldLink RX0 9 "ColumnDesk$Items" "cells" "[I"] ++ wsX00)
def wsX0_size : List Cond := .code yX0_size cX0_size 1 (some .int) :: ([.fieldLink RX0 15 "ColumnDesk$Items" "size" "I"] ++ wsX00)
def wsX0_at : List Cond := .code yX0_at cX0_at 4 (some .int) :: ([.fieldLink RX0 15 "ColumnDesk$Items" "size" "I", .fieldLink RX0 9 "ColumnDesk$Items" "cells" "[I"] ++ wsX00)
def wsX0_put : List Cond := .code yX0_put cX0_put 5 none :: ([.fieldLink RX0 15 "ColumnDesk$Items" "size" "I", .fieldLink RX0 9 "ColumnDesk$Items" "cells" "[I"] ++ wsX00)
def wsJ7_copyOf_59c91 : List Cond := .code yJ7_copyOf_59c91 cJ7_copyOf_59c91 3 (some (.array .int)) :: ([.methodLink RJ7 316 ⟨"[I", "clone", "()Ljava/lang/Object;"⟩, .sameMethod "[I" "java/lang/Object" "clone" "()Ljava/lang/Object;", .native ⟨"java/lang/Object", "clone", "()Ljava/lang/Object;"⟩, .instanceMethod ⟨"java/lang/Object", "clone", "()Ljava/lang/Object;"⟩, .selects "[I" ⟨"[I", "clone", "()Ljava/lang/Object;"⟩ ⟨"java/lang/Object", "clone", "()Ljava/lang/Object;"⟩, .classLink RJ7 317 "[I", .arrayClass .int, .methodLink RJ7 304 Lib.Math.min.name, .static Lib.Math.min.name, .initialized "java/lang/Math", .code Lib.Math.min.name Lib.Math.min.code 2 (some .int), .methodLink RJ7 150 arraycopyName, .native arraycopyName, .static arraycopyName, .initialized "java/lang/System"])
def wsX0_makeRoom : List Cond := .code yX0_makeRoom cX0_makeRoom 3 none :: ([.fieldLink RX0 9 "ColumnDesk$Items" "cells" "[I", .methodLink RX0 36 Lib.Math.max.name, .static Lib.Math.max.name, .initialized "java/lang/Math", .code Lib.Math.max.name Lib.Math.max.code 2 (some .int), .methodLink RX0 42 Lib.Math.min.name, .static Lib.Math.min.name, .code Lib.Math.min.name Lib.Math.min.code 2 (some .int), .methodLink RX0 45 yJ7_copyOf_59c91, .static yJ7_copyOf_59c91, .initialized RJ7, .code yJ7_copyOf_59c91 cJ7_copyOf_59c91 3 (some (.array .int)), .methodLink RJ7 316 ⟨"[I", "clone", "()Ljava/lang/Object;"⟩, .sameMethod "[I" "java/lang/Object" "clone" "()Ljava/lang/Object;", .native ⟨"java/lang/Object", "clone", "()Ljava/lang/Object;"⟩, .instanceMethod ⟨"java/lang/Object", "clone", "()Ljava/lang/Object;"⟩, .selects "[I" ⟨"[I", "clone", "()Ljava/lang/Object;"⟩ ⟨"java/lang/Object", "clone", "()Ljava/lang/Object;"⟩, .classLink RJ7 317 "[I", .arrayClass .int, .methodLink RJ7 304 Lib.Math.min.name, .methodLink RJ7 150 arraycopyName, .native arraycopyName, .static arraycopyName, .initialized "java/lang/System"] ++ wsX00)
def wsX0_append_r1 : List Cond := [Cond.fieldLink RX0 15 "ColumnDesk$Items" "size" "I", Cond.fieldLink RX0 9 "ColumnDesk$Items" "cells" "[I", Cond.methodLink RX0 19 yX0_makeRoom, Cond.instanceMethod yX0_makeRoom, Cond.selects RX0 yX0_makeRoom yX0_makeRoom, Cond.initialized RX0, Cond.code yX0_makeRoom cX0_makeRoom 3 none, Cond.methodLink RX0 36 Lib.Math.max.name, Cond.static Lib.Math.max.name, Cond.initialized "java/lang/Math", Cond.code Lib.Math.max.name Lib.Math.max.code 2 (some .int), Cond.methodLink RX0 42 Lib.Math.min.name, Cond.static Lib.Math.min.name, Cond.code Lib.Math.min.name Lib.Math.min.code 2 (some .int), Cond.methodLink RX0 45 yJ7_copyOf_59c91, Cond.static yJ7_copyOf_59c91, Cond.initialized RJ7, Cond.code yJ7_copyOf_59c91 cJ7_copyOf_59c91 3 (some (.array .int)), Cond.methodLink RJ7 316 ⟨"[I", "clone", "()Ljava/lang/Object;"⟩, Cond.sameMethod "[I" "java/lang/Object" "clone" "()Ljava/lang/Object;", Cond.native ⟨"java/lang/Object", "clone", "()Ljava/lang/Object;"⟩, Cond.instanceMethod ⟨"java/lang/Object", "clone", "()Ljava/lang/Object;"⟩, Cond.selects "[I" ⟨"[I", "clone", "()Ljava/lang/Object;"⟩ ⟨"java/lang/Object", "clone", "()Ljava/lang/Object;"⟩, Cond.classLink RJ7 317 "[I"]
def wsX0_append_r2 : List Cond := [Cond.arrayClass .int, Cond.methodLink RJ7 304 Lib.Math.min.name, Cond.methodLink RJ7 150 arraycopyName, Cond.native arraycopyName, Cond.static arraycopyName, Cond.initialized "java/lang/System"]
def wsX0_append : List Cond := .code yX0_append cX0_append 1 (some .int) :: ((wsX0_append_r1 ++ wsX0_append_r2) ++ wsX00)
def wsX0_makePlain : List Cond := .code yX0_makePlain cX0_makePlain 5 none :: ([.methodLink RX0 23 yX0_put, .instanceMethod yX0_put, .selects RX0 yX0_put yX0_put, .initialized RX0, .code yX0_put cX0_put 5 none, .fieldLink RX0 15 "ColumnDesk$Items" "size" "I", .fieldLink RX0 9 "ColumnDesk$Items" "cells" "[I"] ++ wsX00)
def wsX0_makeSolid : List Cond := .code yX0_makeSolid cX0_makeSolid 7 none :: ([.methodLink RX0 27 yX0_makePlain, .instanceMethod yX0_makePlain, .selects RX0 yX0_makePlain yX0_makePlain, .initialized RX0, .code yX0_makePlain cX0_makePlain 5 none, .methodLink RX0 23 yX0_put, .instanceMethod yX0_put, .selects RX0 yX0_put yX0_put, .code yX0_put cX0_put 5 none, .fieldLink RX0 15 "ColumnDesk$Items" "size" "I", .fieldLink RX0 9 "ColumnDesk$Items" "cells" "[I"] ++ wsX00)
def wsX0_makeGlue : List Cond := .code yX0_makeGlue cX0_makeGlue 6 none :: ([.methodLink RX0 27 yX0_makePlain, .instanceMethod yX0_makePlain, .selects RX0 yX0_makePlain yX0_makePlain, .initialized RX0, .code yX0_makePlain cX0_makePlain 5 none, .methodLink RX0 23 yX0_put, .instanceMethod yX0_put, .selects RX0 yX0_put yX0_put, .code yX0_put cX0_put 5 none, .fieldLink RX0 15 "ColumnDesk$Items" "size" "I", .fieldLink RX0 9 "ColumnDesk$Items" "cells" "[I"] ++ wsX00)
def wsX0_copyFrom_r1 : List Cond := [Cond.fieldLink RX0 15 "ColumnDesk$Items" "size" "I", Cond.fieldLink RX0 9 "ColumnDesk$Items" "cells" "[I", Cond.methodLink RX0 30 arraycopyName, Cond.native arraycopyName, Cond.static arraycopyName, Cond.initialized "java/lang/System", Cond.methodLink RX0 19 yX0_makeRoom, Cond.instanceMethod yX0_makeRoom, Cond.selects RX0 yX0_makeRoom yX0_makeRoom, Cond.initialized RX0, Cond.code yX0_makeRoom cX0_makeRoom 3 none, Cond.methodLink RX0 36 Lib.Math.max.name, Cond.static Lib.Math.max.name, Cond.initialized "java/lang/Math", Cond.code Lib.Math.max.name Lib.Math.max.code 2 (some .int), Cond.methodLink RX0 42 Lib.Math.min.name, Cond.static Lib.Math.min.name, Cond.code Lib.Math.min.name Lib.Math.min.code 2 (some .int), Cond.methodLink RX0 45 yJ7_copyOf_59c91, Cond.static yJ7_copyOf_59c91, Cond.initialized RJ7, Cond.code yJ7_copyOf_59c91 cJ7_copyOf_59c91 3 (some (.array .int)), Cond.methodLink RJ7 316 ⟨"[I", "clone", "()Ljava/lang/Object;"⟩, Cond.sameMethod "[I" "java/lang/Object" "clone" "()Ljava/lang/Object;"]
def wsX0_copyFrom_r2 : List Cond := [Cond.native ⟨"java/lang/Object", "clone", "()Ljava/lang/Object;"⟩, Cond.instanceMethod ⟨"java/lang/Object", "clone", "()Ljava/lang/Object;"⟩, Cond.selects "[I" ⟨"[I", "clone", "()Ljava/lang/Object;"⟩ ⟨"java/lang/Object", "clone", "()Ljava/lang/Object;"⟩, Cond.classLink RJ7 317 "[I", Cond.arrayClass .int, Cond.methodLink RJ7 304 Lib.Math.min.name, Cond.methodLink RJ7 150 arraycopyName]
def wsX0_copyFrom : List Cond := .code yX0_copyFrom cX0_copyFrom 5 none :: ((wsX0_copyFrom_r1 ++ wsX0_copyFrom_r2) ++ wsX00)
def wsX0_dropFirst : List Cond := .code yX0_dropFirst cX0_dropFirst 2 none :: ([.fieldLink RX0 15 "ColumnDesk$Items" "size" "I", .fieldLink RX0 9 "ColumnDesk$Items" "cells" "[I", .methodLink RX0 30 arraycopyName, .native arraycopyName, .static arraycopyName, .initialized "java/lang/System"] ++ wsX00)
def wsX0_clear : List Cond := .code yX0_clear cX0_clear 1 none :: ([.fieldLink RX0 15 "ColumnDesk$Items" "size" "I"] ++ wsX00)
def wsX1_init : List Cond := .code yX1_init cX1_init 1 none :: ([.methodLink RX1 3 objectInit, .instanceMethod objectInit, .code objectInit ⟨#[0xb1]⟩ 1 none, .classLink RX1 9 RX0, .instantiable RX0 2, .initialized RX0, .fieldLink RX1 14 "ColumnDesk$MadePage" "items" "LColumnDesk$Items;", .methodLink RX1 11 yX0_init, .instanceMethod yX0_init, .code yX0_init cX0_init 2 none, .methodLink RX0 3 objectInit, .arrayClass .int, .fieldLink RX0 9 "ColumnDesk$Items" "cells" "[I"] ++ wsX00 ++ wsX10)
def wsX4_total : List Cond := .code yX4_total cX4_total 1 (some .long) :: ([.fieldLink RX4 25 "ColumnDesk$Sums" "all" "J", .fieldLink RX4 28 "ColumnDesk$Sums" "depth" "J"] ++ wsX40)
def wsX4_highestOrder : List Cond := .code yX4_highestOrder cX4_highestOrder 2 (some .int) :: ([.fieldLink RX4 9 "ColumnDesk$Sums" "stretch" "[J"] ++ wsX40)
def wsX4_stretchOf : List Cond := .code yX4_stretchOf cX4_stretchOf 2 (some .long) :: ([.fieldLink RX4 9 "ColumnDesk$Sums" "stretch" "[J"] ++ wsX40)
def wsX1_shareOf : List Cond := .code yX1_shareOf cX1_shareOf 3 (some .int) :: ([.fieldLink RX1 14 "ColumnDesk$MadePage" "items" "LColumnDesk$Items;", .methodLink RX1 73 yX0_at, .instanceMethod yX0_at, .selects RX0 yX0_at yX0_at, .initialized RX0, .code yX0_at cX0_at 4 (some .int), .fieldLink RX0 15 "ColumnDesk$Items" "size" "I", .fieldLink RX0 9 "ColumnDesk$Items" "cells" "[I"] ++ wsX10 ++ wsX00)
def wsX5_near : List Cond := .code yX5_near cX5_near 6 (some .long) :: ([.constantLong RX5 259 (2), .methodLink RX5 261 Lib.MathLoose.abs_long.x, .static Lib.MathLoose.abs_long.x, .initialized "java/lang/Math", .code Lib.MathLoose.abs_long.x Lib.MathLoose.abs_long.code 2 (some .long)])
def wsX1_within : List Cond := .code yX1_within cX1_within 2 (some .int) :: ([.constantLong RX1 91 (-2147483647), .constantLong RX1 93 (2147483647), .methodLink RX1 95 Lib.MathLoose.min_long.x, .static Lib.MathLoose.min_long.x, .initialized "java/lang/Math", .code Lib.MathLoose.min_long.x Lib.MathLoose.min_long.code 4 (some .long), .methodLink RX1 64 Lib.MathLoose.max_long.x, .static Lib.MathLoose.max_long.x, .code Lib.MathLoose.max_long.x Lib.MathLoose.max_long.code 4 (some .long)])
def wsX1_spread_r1 : List Cond := [Cond.fieldLink RX1 14 "ColumnDesk$MadePage" "items" "LColumnDesk$Items;", Cond.methodLink RX1 70 yX0_size, Cond.instanceMethod yX0_size, Cond.selects RX0 yX0_size yX0_size, Cond.initialized RX0, Cond.code yX0_size cX0_size 1 (some .int), Cond.fieldLink RX0 15 "ColumnDesk$Items" "size" "I", Cond.methodLink RX1 73 yX0_at, Cond.instanceMethod yX0_at, Cond.selects RX0 yX0_at yX0_at, Cond.code yX0_at cX0_at 4 (some .int), Cond.fieldLink RX0 9 "ColumnDesk$Items" "cells" "[I", Cond.methodLink RX1 77 yX1_shareOf, Cond.instanceMethod yX1_shareOf, Cond.selects RX1 yX1_shareOf yX1_shareOf, Cond.initialized RX1, Cond.code yX1_shareOf cX1_shareOf 3 (some .int), Cond.static yX5_near, Cond.initialized RX5, Cond.code yX5_near cX5_near 6 (some .long), Cond.constantLong RX5 259 (2), Cond.methodLink RX5 261 Lib.MathLoose.abs_long.x, Cond.static Lib.MathLoose.abs_long.x, Cond.initialized "java/lang/Math"]
def wsX1_spread_r2 : List Cond := [Cond.code Lib.MathLoose.abs_long.x Lib.MathLoose.abs_long.code 2 (some .long), Cond.methodLink RX1 83 yX1_within, Cond.static yX1_within, Cond.code yX1_within cX1_within 2 (some .int), Cond.constantLong RX1 91 (-2147483647), Cond.constantLong RX1 93 (2147483647), Cond.methodLink RX1 95 Lib.MathLoose.min_long.x, Cond.static Lib.MathLoose.min_long.x, Cond.code Lib.MathLoose.min_long.x Lib.MathLoose.min_long.code 4 (some .long), Cond.methodLink RX1 64 Lib.MathLoose.max_long.x, Cond.static Lib.MathLoose.max_long.x, Cond.code Lib.MathLoose.max_long.x Lib.MathLoose.max_long.code 4 (some .long), Cond.methodLink RX1 87 yX0_put, Cond.instanceMethod yX0_put, Cond.selects RX0 yX0_put yX0_put, Cond.code yX0_put cX0_put 5 none]
def wsX1_spread : List Cond := .code yX1_spread cX1_spread 13 none :: ((wsX1_spread_r1 ++ wsX1_spread_r2) ++ wsX10 ++ wsX00)
def wsX1_setGlue_r1 : List Cond := [Cond.methodLink RX1 64 Lib.MathLoose.max_long.x, Cond.static Lib.MathLoose.max_long.x, Cond.initialized "java/lang/Math", Cond.code Lib.MathLoose.max_long.x Lib.MathLoose.max_long.code 4 (some .long), Cond.methodLink RX1 49 yX4_highestOrder, Cond.instanceMethod yX4_highestOrder, Cond.selects RX4 yX4_highestOrder yX4_highestOrder, Cond.initialized RX4, Cond.code yX4_highestOrder cX4_highestOrder 2 (some .int), Cond.fieldLink RX4 9 "ColumnDesk$Sums" "stretch" "[J", Cond.methodLink RX1 53 yX4_stretchOf, Cond.instanceMethod yX4_stretchOf, Cond.selects RX4 yX4_stretchOf yX4_stretchOf, Cond.code yX4_stretchOf cX4_stretchOf 2 (some .long), Cond.methodLink RX1 57 yX1_spread, Cond.instanceMethod yX1_spread, Cond.selects RX1 yX1_spread yX1_spread, Cond.initialized RX1, Cond.code yX1_spread cX1_spread 13 none, Cond.fieldLink RX1 14 "ColumnDesk$MadePage" "items" "LColumnDesk$Items;", Cond.methodLink RX1 70 yX0_size, Cond.instanceMethod yX0_size, Cond.selects RX0 yX0_size yX0_size, Cond.initialized RX0]
def wsX1_setGlue_r2 : List Cond := [Cond.code yX0_size cX0_size 1 (some .int), Cond.fieldLink RX0 15 "ColumnDesk$Items" "size" "I", Cond.methodLink RX1 73 yX0_at, Cond.instanceMethod yX0_at, Cond.selects RX0 yX0_at yX0_at, Cond.code yX0_at cX0_at 4 (some .int), Cond.fieldLink RX0 9 "ColumnDesk$Items" "cells" "[I", Cond.methodLink RX1 77 yX1_shareOf, Cond.instanceMethod yX1_shareOf, Cond.selects RX1 yX1_shareOf yX1_shareOf, Cond.code yX1_shareOf cX1_shareOf 3 (some .int), Cond.static yX5_near, Cond.initialized RX5, Cond.code yX5_near cX5_near 6 (some .long), Cond.constantLong RX5 259 (2), Cond.methodLink RX5 261 Lib.MathLoose.abs_long.x, Cond.static Lib.MathLoose.abs_long.x, Cond.code Lib.MathLoose.abs_long.x Lib.MathLoose.abs_long.code 2 (some .long), Cond.methodLink RX1 83 yX1_within, Cond.static yX1_within, Cond.code yX1_within cX1_within 2 (some .int), Cond.constantLong RX1 91 (-2147483647), Cond.constantLong RX1 93 (2147483647), Cond.methodLink RX1 95 Lib.MathLoose.min_long.x]
def wsX1_setGlue_r3 : List Cond := [Cond.static Lib.MathLoose.min_long.x, Cond.code Lib.MathLoose.min_long.x Lib.MathLoose.min_long.code 4 (some .long), Cond.methodLink RX1 87 yX0_put, Cond.instanceMethod yX0_put, Cond.selects RX0 yX0_put yX0_put, Cond.code yX0_put cX0_put 5 none]
def wsX1_setGlue : List Cond := .code yX1_setGlue cX1_setGlue 5 none :: ((wsX1_setGlue_r1 ++ (wsX1_setGlue_r2 ++ wsX1_setGlue_r3)) ++ wsX40 ++ wsX10 ++ wsX00)
def wsX1_make_r1 : List Cond := [Cond.fieldLink RX1 14 "ColumnDesk$MadePage" "items" "LColumnDesk$Items;", Cond.fieldLink RX1 24 "ColumnDesk$MadePage" "height" "I", Cond.fieldLink RX1 34 "ColumnDesk$MadePage" "depth" "I", Cond.fieldLink RX1 39 "ColumnDesk$MadePage" "width" "I", Cond.methodLink RX1 20 yX0_copyFrom, Cond.instanceMethod yX0_copyFrom, Cond.selects RX0 yX0_copyFrom yX0_copyFrom, Cond.initialized RX0, Cond.code yX0_copyFrom cX0_copyFrom 5 none, Cond.fieldLink RX0 15 "ColumnDesk$Items" "size" "I", Cond.fieldLink RX0 9 "ColumnDesk$Items" "cells" "[I", Cond.methodLink RX0 30 arraycopyName, Cond.native arraycopyName, Cond.static arraycopyName, Cond.initialized "java/lang/System", Cond.methodLink RX0 19 yX0_makeRoom, Cond.instanceMethod yX0_makeRoom, Cond.selects RX0 yX0_makeRoom yX0_makeRoom, Cond.code yX0_makeRoom cX0_makeRoom 3 none, Cond.methodLink RX0 36 Lib.Math.max.name, Cond.static Lib.Math.max.name, Cond.initialized "java/lang/Math", Cond.code Lib.Math.max.name Lib.Math.max.code 2 (some .int), Cond.methodLink RX0 42 Lib.Math.min.name]
def wsX1_make_r2 : List Cond := [Cond.static Lib.Math.min.name, Cond.code Lib.Math.min.name Lib.Math.min.code 2 (some .int), Cond.methodLink RX0 45 yJ7_copyOf_59c91, Cond.static yJ7_copyOf_59c91, Cond.initialized RJ7, Cond.code yJ7_copyOf_59c91 cJ7_copyOf_59c91 3 (some (.array .int)), Cond.methodLink RJ7 316 ⟨"[I", "clone", "()Ljava/lang/Object;"⟩, Cond.sameMethod "[I" "java/lang/Object" "clone" "()Ljava/lang/Object;", Cond.native ⟨"java/lang/Object", "clone", "()Ljava/lang/Object;"⟩, Cond.instanceMethod ⟨"java/lang/Object", "clone", "()Ljava/lang/Object;"⟩, Cond.selects "[I" ⟨"[I", "clone", "()Ljava/lang/Object;"⟩ ⟨"java/lang/Object", "clone", "()Ljava/lang/Object;"⟩, Cond.classLink RJ7 317 "[I", Cond.arrayClass .int, Cond.methodLink RJ7 304 Lib.Math.min.name, Cond.methodLink RJ7 150 arraycopyName, Cond.methodLink RX1 41 yX4_total, Cond.instanceMethod yX4_total, Cond.selects RX4 yX4_total yX4_total, Cond.initialized RX4, Cond.code yX4_total cX4_total 1 (some .long), Cond.fieldLink RX4 25 "ColumnDesk$Sums" "all" "J", Cond.fieldLink RX4 28 "ColumnDesk$Sums" "depth" "J", Cond.methodLink RX1 45 yX1_setGlue, Cond.instanceMethod yX1_setGlue]
def wsX1_make_r3 : List Cond := [Cond.selects RX1 yX1_setGlue yX1_setGlue, Cond.initialized RX1, Cond.code yX1_setGlue cX1_setGlue 5 none, Cond.methodLink RX1 64 Lib.MathLoose.max_long.x, Cond.static Lib.MathLoose.max_long.x, Cond.code Lib.MathLoose.max_long.x Lib.MathLoose.max_long.code 4 (some .long), Cond.methodLink RX1 49 yX4_highestOrder, Cond.instanceMethod yX4_highestOrder, Cond.selects RX4 yX4_highestOrder yX4_highestOrder, Cond.code yX4_highestOrder cX4_highestOrder 2 (some .int), Cond.fieldLink RX4 9 "ColumnDesk$Sums" "stretch" "[J", Cond.methodLink RX1 53 yX4_stretchOf, Cond.instanceMethod yX4_stretchOf, Cond.selects RX4 yX4_stretchOf yX4_stretchOf, Cond.code yX4_stretchOf cX4_stretchOf 2 (some .long), Cond.methodLink RX1 57 yX1_spread, Cond.instanceMethod yX1_spread, Cond.selects RX1 yX1_spread yX1_spread, Cond.code yX1_spread cX1_spread 13 none, Cond.methodLink RX1 70 yX0_size, Cond.instanceMethod yX0_size, Cond.selects RX0 yX0_size yX0_size, Cond.code yX0_size cX0_size 1 (some .int), Cond.methodLink RX1 73 yX0_at]
def wsX1_make_r4 : List Cond := [Cond.instanceMethod yX0_at, Cond.selects RX0 yX0_at yX0_at, Cond.code yX0_at cX0_at 4 (some .int), Cond.methodLink RX1 77 yX1_shareOf, Cond.instanceMethod yX1_shareOf, Cond.selects RX1 yX1_shareOf yX1_shareOf, Cond.code yX1_shareOf cX1_shareOf 3 (some .int), Cond.static yX5_near, Cond.initialized RX5, Cond.code yX5_near cX5_near 6 (some .long), Cond.constantLong RX5 259 (2), Cond.methodLink RX5 261 Lib.MathLoose.abs_long.x, Cond.static Lib.MathLoose.abs_long.x, Cond.code Lib.MathLoose.abs_long.x Lib.MathLoose.abs_long.code 2 (some .long), Cond.methodLink RX1 83 yX1_within, Cond.static yX1_within, Cond.code yX1_within cX1_within 2 (some .int), Cond.constantLong RX1 91 (-2147483647), Cond.constantLong RX1 93 (2147483647), Cond.methodLink RX1 95 Lib.MathLoose.min_long.x, Cond.static Lib.MathLoose.min_long.x, Cond.code Lib.MathLoose.min_long.x Lib.MathLoose.min_long.code 4 (some .long), Cond.methodLink RX1 87 yX0_put, Cond.instanceMethod yX0_put]
def wsX1_make_r5 : List Cond := [Cond.selects RX0 yX0_put yX0_put, Cond.code yX0_put cX0_put 5 none]
def wsX1_make : List Cond := .code yX1_make cX1_make 6 none :: ((wsX1_make_r1 ++ (wsX1_make_r2 ++ (wsX1_make_r3 ++ (wsX1_make_r4 ++ wsX1_make_r5)))) ++ wsX10 ++ wsX40 ++ wsX00)
def wsX4_init : List Cond := .code yX4_init cX4_init 1 none :: ([.methodLink RX4 3 objectInit, .instanceMethod objectInit, .code objectInit ⟨#[0xb1]⟩ 1 none, .arrayClass .long, .fieldLink RX4 9 "ColumnDesk$Sums" "stretch" "[J"] ++ wsX40)
def wsX2_init : List Cond := .code yX2_init cX2_init 1 none :: ([.methodLink RX2 3 objectInit, .instanceMethod objectInit, .code objectInit ⟨#[0xb1]⟩ 1 none, .classLink RX2 9 RX4, .instantiable RX4 6, .initialized RX4, .fieldLink RX2 12 "ColumnDesk$Page" "sums" "LColumnDesk$Sums;", .fieldLink RX2 18 "ColumnDesk$Page" "best" "I", .instanceMethod yX4_init, .code yX4_init cX4_init 1 none, .methodLink RX4 3 objectInit, .arrayClass .long, .fieldLink RX4 9 "ColumnDesk$Sums" "stretch" "[J"] ++ wsX40 ++ wsX20)
def wsJ7_fill_d0a16 : List Cond := .code yJ7_fill_d0a16 cJ7_fill_d0a16 5 none :: ([])
def wsX4_clear : List Cond := .code yX4_clear cX4_clear 2 none :: ([.fieldLink RX4 9 "ColumnDesk$Sums" "stretch" "[J", .fieldLink RX4 21 "ColumnDesk$Sums" "shrink" "J", .fieldLink RX4 25 "ColumnDesk$Sums" "all" "J", .fieldLink RX4 28 "ColumnDesk$Sums" "depth" "J", .fieldLink RX4 31 "ColumnDesk$Sums" "width" "J", .fieldLink RX4 34 "ColumnDesk$Sums" "limit" "I", .methodLink RX4 15 yJ7_fill_d0a16, .static yJ7_fill_d0a16, .initialized RJ7, .code yJ7_fill_d0a16 cJ7_fill_d0a16 5 none] ++ wsX40)
def wsX2_begin : List Cond := .code yX2_begin cX2_begin 4 none :: ([.fieldLink RX2 22 "ColumnDesk$Page" "begun" "Z", .fieldLink RX2 26 "ColumnDesk$Page" "first" "I", .fieldLink RX2 29 "ColumnDesk$Page" "goal" "I", .fieldLink RX2 12 "ColumnDesk$Page" "sums" "LColumnDesk$Sums;", .methodLink RX2 32 yX4_clear, .instanceMethod yX4_clear, .selects RX4 yX4_clear yX4_clear, .initialized RX4, .code yX4_clear cX4_clear 2 none, .fieldLink RX4 9 "ColumnDesk$Sums" "stretch" "[J", .fieldLink RX4 21 "ColumnDesk$Sums" "shrink" "J", .fieldLink RX4 25 "ColumnDesk$Sums" "all" "J", .fieldLink RX4 28 "ColumnDesk$Sums" "depth" "J", .fieldLink RX4 31 "ColumnDesk$Sums" "width" "J", .fieldLink RX4 34 "ColumnDesk$Sums" "limit" "I", .methodLink RX4 15 yJ7_fill_d0a16, .static yJ7_fill_d0a16, .initialized RJ7, .code yJ7_fill_d0a16 cJ7_fill_d0a16 5 none] ++ wsX20 ++ wsX40)
def wsX2_forget : List Cond := .code yX2_forget cX2_forget 1 none :: ([.fieldLink RX2 22 "ColumnDesk$Page" "begun" "Z", .fieldLink RX2 26 "ColumnDesk$Page" "first" "I", .fieldLink RX2 18 "ColumnDesk$Page" "best" "I", .fieldLink RX2 36 "ColumnDesk$Page" "leastCost" "J"] ++ wsX20)
def wsX2_hasBest : List Cond := .code yX2_hasBest cX2_hasBest 1 (some .boolean) :: ([.fieldLink RX2 18 "ColumnDesk$Page" "best" "I"] ++ wsX20)
def wsX5_badness : List Cond := .code yX5_badness cX5_badness 6 (some .long) :: ([.constantLong RX5 249 (10000), .constantLong RX5 251 (297), .constantLong RX5 253 (1290), .constantLong RX5 255 (131072), .constantLong RX5 257 (262144)])
def wsX2_badnessNow_r1 : List Cond := [Cond.fieldLink RX2 29 "ColumnDesk$Page" "goal" "I", Cond.fieldLink RX2 12 "ColumnDesk$Page" "sums" "LColumnDesk$Sums;", Cond.constantLong RX2 44 (-1), Cond.methodLink RX2 54 yX4_total, Cond.instanceMethod yX4_total, Cond.selects RX4 yX4_total yX4_total, Cond.initialized RX4, Cond.code yX4_total cX4_total 1 (some .long), Cond.fieldLink RX4 25 "ColumnDesk$Sums" "all" "J", Cond.fieldLink RX4 28 "ColumnDesk$Sums" "depth" "J", Cond.static yX5_badness, Cond.initialized RX5, Cond.code yX5_badness cX5_badness 6 (some .long), Cond.constantLong RX5 249 (10000), Cond.constantLong RX5 251 (297), Cond.constantLong RX5 253 (1290), Cond.constantLong RX5 255 (131072), Cond.constantLong RX5 257 (262144), Cond.methodLink RX2 64 yX4_highestOrder, Cond.instanceMethod yX4_highestOrder, Cond.selects RX4 yX4_highestOrder yX4_highestOrder, Cond.code yX4_highestOrder cX4_highestOrder 2 (some .int), Cond.fieldLink RX4 9 "ColumnDesk$Sums" "stretch" "[J", Cond.methodLink RX2 68 yX4_stretchOf]
def wsX2_badnessNow_r2 : List Cond := [Cond.instanceMethod yX4_stretchOf, Cond.selects RX4 yX4_stretchOf yX4_stretchOf, Cond.code yX4_stretchOf cX4_stretchOf 2 (some .long)]
def wsX2_badnessNow : List Cond := .code yX2_badnessNow cX2_badnessNow 3 (some .long) :: ((wsX2_badnessNow_r1 ++ wsX2_badnessNow_r2) ++ wsX20 ++ wsX40)
def wsX2_costOf : List Cond := .code yX2_costOf cX2_costOf 3 (some .long) :: ([.constantLong RX2 72 (10000), .constantLong RX2 74 (100000)])
def wsX2_weigh_r1 : List Cond := [Cond.constantLong RX2 44 (-1), Cond.fieldLink RX2 36 "ColumnDesk$Page" "leastCost" "J", Cond.fieldLink RX2 18 "ColumnDesk$Page" "best" "I", Cond.methodLink RX2 40 yX2_badnessNow, Cond.instanceMethod yX2_badnessNow, Cond.selects RX2 yX2_badnessNow yX2_badnessNow, Cond.initialized RX2, Cond.code yX2_badnessNow cX2_badnessNow 3 (some .long), Cond.fieldLink RX2 29 "ColumnDesk$Page" "goal" "I", Cond.fieldLink RX2 12 "ColumnDesk$Page" "sums" "LColumnDesk$Sums;", Cond.methodLink RX2 54 yX4_total, Cond.instanceMethod yX4_total, Cond.selects RX4 yX4_total yX4_total, Cond.initialized RX4, Cond.code yX4_total cX4_total 1 (some .long), Cond.fieldLink RX4 25 "ColumnDesk$Sums" "all" "J", Cond.fieldLink RX4 28 "ColumnDesk$Sums" "depth" "J", Cond.static yX5_badness, Cond.initialized RX5, Cond.code yX5_badness cX5_badness 6 (some .long), Cond.constantLong RX5 249 (10000), Cond.constantLong RX5 251 (297), Cond.constantLong RX5 253 (1290), Cond.constantLong RX5 255 (131072)]
def wsX2_weigh_r2 : List Cond := [Cond.constantLong RX5 257 (262144), Cond.methodLink RX2 64 yX4_highestOrder, Cond.instanceMethod yX4_highestOrder, Cond.selects RX4 yX4_highestOrder yX4_highestOrder, Cond.code yX4_highestOrder cX4_highestOrder 2 (some .int), Cond.fieldLink RX4 9 "ColumnDesk$Sums" "stretch" "[J", Cond.methodLink RX2 68 yX4_stretchOf, Cond.instanceMethod yX4_stretchOf, Cond.selects RX4 yX4_stretchOf yX4_stretchOf, Cond.code yX4_stretchOf cX4_stretchOf 2 (some .long), Cond.methodLink RX2 46 yX2_costOf, Cond.static yX2_costOf, Cond.code yX2_costOf cX2_costOf 3 (some .long), Cond.constantLong RX2 72 (10000), Cond.constantLong RX2 74 (100000), Cond.methodLink RX2 50 yX2_hasBest, Cond.instanceMethod yX2_hasBest, Cond.selects RX2 yX2_hasBest yX2_hasBest, Cond.code yX2_hasBest cX2_hasBest 1 (some .boolean)]
def wsX2_weigh : List Cond := .code yX2_weigh cX2_weigh 8 (some .boolean) :: ((wsX2_weigh_r1 ++ wsX2_weigh_r2) ++ wsX20 ++ wsX40)
def wsX3_init : List Cond := .code yX3_init cX3_init 1 none :: ([.methodLink RX3 3 objectInit, .instanceMethod objectInit, .code objectInit ⟨#[0xb1]⟩ 1 none, .classLink RX3 9 RX1, .fieldLink RX3 11 "ColumnDesk$Shelf" "pages" "[LColumnDesk$MadePage;"] ++ wsX30)
def wsJ9_floorMod_7cf53 : List Cond := .code yJ9_floorMod_7cf53 cJ9_floorMod_7cf53 3 (some .int) :: ([])
def wsX3_put_r1 : List Cond := [Cond.fieldLink RX3 17 "ColumnDesk$Shelf" "latest" "I", Cond.fieldLink RX3 27 "ColumnDesk$Shelf" "kept" "I", Cond.methodLink RX3 30 Lib.Math.min.name, Cond.static Lib.Math.min.name, Cond.initialized "java/lang/Math", Cond.code Lib.Math.min.name Lib.Math.min.code 2 (some .int), Cond.fieldLink RX3 33 "ColumnDesk$Shelf" "everMade" "I", Cond.fieldLink RX3 11 "ColumnDesk$Shelf" "pages" "[LColumnDesk$MadePage;", Cond.classLink RX3 9 RX1, Cond.instantiable RX1 4, Cond.initialized RX1, Cond.methodLink RX3 21 yJ9_floorMod_7cf53, Cond.static yJ9_floorMod_7cf53, Cond.initialized RJ9, Cond.code yJ9_floorMod_7cf53 cJ9_floorMod_7cf53 3 (some .int), Cond.instanceMethod yX1_init, Cond.code yX1_init cX1_init 1 none, Cond.methodLink RX1 3 objectInit, Cond.instanceMethod objectInit, Cond.code objectInit ⟨#[0xb1]⟩ 1 none, Cond.classLink RX1 9 RX0, Cond.instantiable RX0 2, Cond.initialized RX0, Cond.fieldLink RX1 14 "ColumnDesk$MadePage" "items" "LColumnDesk$Items;"]
def wsX3_put_r2 : List Cond := [Cond.methodLink RX1 11 yX0_init, Cond.instanceMethod yX0_init, Cond.code yX0_init cX0_init 2 none, Cond.methodLink RX0 3 objectInit, Cond.arrayClass .int, Cond.fieldLink RX0 9 "ColumnDesk$Items" "cells" "[I", Cond.methodLink RX3 37 yX1_make, Cond.instanceMethod yX1_make, Cond.selects RX1 yX1_make yX1_make, Cond.code yX1_make cX1_make 6 none, Cond.fieldLink RX1 24 "ColumnDesk$MadePage" "height" "I", Cond.fieldLink RX1 34 "ColumnDesk$MadePage" "depth" "I", Cond.fieldLink RX1 39 "ColumnDesk$MadePage" "width" "I", Cond.methodLink RX1 20 yX0_copyFrom, Cond.instanceMethod yX0_copyFrom, Cond.selects RX0 yX0_copyFrom yX0_copyFrom, Cond.code yX0_copyFrom cX0_copyFrom 5 none, Cond.fieldLink RX0 15 "ColumnDesk$Items" "size" "I", Cond.methodLink RX0 30 arraycopyName, Cond.native arraycopyName, Cond.static arraycopyName, Cond.initialized "java/lang/System", Cond.methodLink RX0 19 yX0_makeRoom, Cond.instanceMethod yX0_makeRoom]
def wsX3_put_r3 : List Cond := [Cond.selects RX0 yX0_makeRoom yX0_makeRoom, Cond.code yX0_makeRoom cX0_makeRoom 3 none, Cond.methodLink RX0 36 Lib.Math.max.name, Cond.static Lib.Math.max.name, Cond.code Lib.Math.max.name Lib.Math.max.code 2 (some .int), Cond.methodLink RX0 42 Lib.Math.min.name, Cond.methodLink RX0 45 yJ7_copyOf_59c91, Cond.static yJ7_copyOf_59c91, Cond.initialized RJ7, Cond.code yJ7_copyOf_59c91 cJ7_copyOf_59c91 3 (some (.array .int)), Cond.methodLink RJ7 316 ⟨"[I", "clone", "()Ljava/lang/Object;"⟩, Cond.sameMethod "[I" "java/lang/Object" "clone" "()Ljava/lang/Object;", Cond.native ⟨"java/lang/Object", "clone", "()Ljava/lang/Object;"⟩, Cond.instanceMethod ⟨"java/lang/Object", "clone", "()Ljava/lang/Object;"⟩, Cond.selects "[I" ⟨"[I", "clone", "()Ljava/lang/Object;"⟩ ⟨"java/lang/Object", "clone", "()Ljava/lang/Object;"⟩, Cond.classLink RJ7 317 "[I", Cond.methodLink RJ7 304 Lib.Math.min.name, Cond.methodLink RJ7 150 arraycopyName, Cond.methodLink RX1 41 yX4_total, Cond.instanceMethod yX4_total, Cond.selects RX4 yX4_total yX4_total, Cond.initialized RX4, Cond.code yX4_total cX4_total 1 (some .long), Cond.fieldLink RX4 25 "ColumnDesk$Sums" "all" "J"]
def wsX3_put_r4 : List Cond := [Cond.fieldLink RX4 28 "ColumnDesk$Sums" "depth" "J", Cond.methodLink RX1 45 yX1_setGlue, Cond.instanceMethod yX1_setGlue, Cond.selects RX1 yX1_setGlue yX1_setGlue, Cond.code yX1_setGlue cX1_setGlue 5 none, Cond.methodLink RX1 64 Lib.MathLoose.max_long.x, Cond.static Lib.MathLoose.max_long.x, Cond.code Lib.MathLoose.max_long.x Lib.MathLoose.max_long.code 4 (some .long), Cond.methodLink RX1 49 yX4_highestOrder, Cond.instanceMethod yX4_highestOrder, Cond.selects RX4 yX4_highestOrder yX4_highestOrder, Cond.code yX4_highestOrder cX4_highestOrder 2 (some .int), Cond.fieldLink RX4 9 "ColumnDesk$Sums" "stretch" "[J", Cond.methodLink RX1 53 yX4_stretchOf, Cond.instanceMethod yX4_stretchOf, Cond.selects RX4 yX4_stretchOf yX4_stretchOf, Cond.code yX4_stretchOf cX4_stretchOf 2 (some .long), Cond.methodLink RX1 57 yX1_spread, Cond.instanceMethod yX1_spread, Cond.selects RX1 yX1_spread yX1_spread, Cond.code yX1_spread cX1_spread 13 none, Cond.methodLink RX1 70 yX0_size, Cond.instanceMethod yX0_size, Cond.selects RX0 yX0_size yX0_size]
def wsX3_put_r5 : List Cond := [Cond.code yX0_size cX0_size 1 (some .int), Cond.methodLink RX1 73 yX0_at, Cond.instanceMethod yX0_at, Cond.selects RX0 yX0_at yX0_at, Cond.code yX0_at cX0_at 4 (some .int), Cond.methodLink RX1 77 yX1_shareOf, Cond.instanceMethod yX1_shareOf, Cond.selects RX1 yX1_shareOf yX1_shareOf, Cond.code yX1_shareOf cX1_shareOf 3 (some .int), Cond.static yX5_near, Cond.initialized RX5, Cond.code yX5_near cX5_near 6 (some .long), Cond.constantLong RX5 259 (2), Cond.methodLink RX5 261 Lib.MathLoose.abs_long.x, Cond.static Lib.MathLoose.abs_long.x, Cond.code Lib.MathLoose.abs_long.x Lib.MathLoose.abs_long.code 2 (some .long), Cond.methodLink RX1 83 yX1_within, Cond.static yX1_within, Cond.code yX1_within cX1_within 2 (some .int), Cond.constantLong RX1 91 (-2147483647), Cond.constantLong RX1 93 (2147483647), Cond.methodLink RX1 95 Lib.MathLoose.min_long.x, Cond.static Lib.MathLoose.min_long.x, Cond.code Lib.MathLoose.min_long.x Lib.MathLoose.min_long.code 4 (some .long)]
def wsX3_put_r6 : List Cond := [Cond.methodLink RX1 87 yX0_put, Cond.instanceMethod yX0_put, Cond.selects RX0 yX0_put yX0_put, Cond.code yX0_put cX0_put 5 none]
def wsX3_put : List Cond := .code yX3_put cX3_put 7 none :: ((wsX3_put_r1 ++ (wsX3_put_r2 ++ (wsX3_put_r3 ++ (wsX3_put_r4 ++ (wsX3_put_r5 ++ wsX3_put_r6))))) ++ wsX30 ++ wsX10 ++ wsX00 ++ wsX40)
def wsX3_madePage : List Cond := .code yX3_madePage cX3_madePage 2 (some (.object "ColumnDesk$MadePage")) :: ([.fieldLink RX3 27 "ColumnDesk$Shelf" "kept" "I", .fieldLink RX3 11 "ColumnDesk$Shelf" "pages" "[LColumnDesk$MadePage;", .fieldLink RX3 17 "ColumnDesk$Shelf" "latest" "I", .methodLink RX3 21 yJ9_floorMod_7cf53, .static yJ9_floorMod_7cf53, .initialized RJ9, .code yJ9_floorMod_7cf53 cJ9_floorMod_7cf53 3 (some .int)] ++ wsX30)
def wsX3_held : List Cond := .code yX3_held cX3_held 4 (some .int) :: ([.fieldLink RX3 27 "ColumnDesk$Shelf" "kept" "I", .methodLink RX3 41 yX3_madePage, .instanceMethod yX3_madePage, .selects RX3 yX3_madePage yX3_madePage, .initialized RX3, .code yX3_madePage cX3_madePage 2 (some (.object "ColumnDesk$MadePage")), .fieldLink RX3 11 "ColumnDesk$Shelf" "pages" "[LColumnDesk$MadePage;", .fieldLink RX3 17 "ColumnDesk$Shelf" "latest" "I", .methodLink RX3 21 yJ9_floorMod_7cf53, .static yJ9_floorMod_7cf53, .initialized RJ9, .code yJ9_floorMod_7cf53 cJ9_floorMod_7cf53 3 (some .int), .methodLink RX3 49 yX0_size, .instanceMethod yX0_size, .selects RX0 yX0_size yX0_size, .initialized RX0, .code yX0_size cX0_size 1 (some .int), .fieldLink RX0 15 "ColumnDesk$Items" "size" "I"] ++ wsX30 ++ wsX10 ++ wsX00)
def wsX3_clear : List Cond := .code yX3_clear cX3_clear 1 none :: ([.fieldLink RX3 27 "ColumnDesk$Shelf" "kept" "I"] ++ wsX30)
def wsX4_takeSolid : List Cond := .code yX4_takeSolid cX4_takeSolid 5 none :: ([.fieldLink RX4 25 "ColumnDesk$Sums" "all" "J", .fieldLink RX4 34 "ColumnDesk$Sums" "limit" "I", .methodLink RX4 51 Lib.MathLoose.min_long.x, .static Lib.MathLoose.min_long.x, .initialized "java/lang/Math", .code Lib.MathLoose.min_long.x Lib.MathLoose.min_long.code 4 (some .long), .fieldLink RX4 28 "ColumnDesk$Sums" "depth" "J", .fieldLink RX4 31 "ColumnDesk$Sums" "width" "J", .methodLink RX4 57 Lib.MathLoose.max_long.x, .static Lib.MathLoose.max_long.x, .code Lib.MathLoose.max_long.x Lib.MathLoose.max_long.code 4 (some .long), .methodLink RX4 38 yX0_at, .instanceMethod yX0_at, .selects RX0 yX0_at yX0_at, .initialized RX0, .code yX0_at cX0_at 4 (some .int), .fieldLink RX0 15 "ColumnDesk$Items" "size" "I", .fieldLink RX0 9 "ColumnDesk$Items" "cells" "[I"] ++ wsX40 ++ wsX00)
def wsX4_takeGlue : List Cond := .code yX4_takeGlue cX4_takeGlue 4 none :: ([.fieldLink RX4 25 "ColumnDesk$Sums" "all" "J", .fieldLink RX4 21 "ColumnDesk$Sums" "shrink" "J", .fieldLink RX4 9 "ColumnDesk$Sums" "stretch" "[J", .methodLink RX4 38 yX0_at, .instanceMethod yX0_at, .selects RX0 yX0_at yX0_at, .initialized RX0, .code yX0_at cX0_at 4 (some .int), .fieldLink RX0 15 "ColumnDesk$Items" "size" "I", .fieldLink RX0 9 "ColumnDesk$Items" "cells" "[I"] ++ wsX40 ++ wsX00)
def wsX4_take_r1 : List Cond := [Cond.fieldLink RX4 28 "ColumnDesk$Sums" "depth" "J", Cond.fieldLink RX4 25 "ColumnDesk$Sums" "all" "J", Cond.methodLink RX4 38 yX0_at, Cond.instanceMethod yX0_at, Cond.selects RX0 yX0_at yX0_at, Cond.initialized RX0, Cond.code yX0_at cX0_at 4 (some .int), Cond.fieldLink RX0 15 "ColumnDesk$Items" "size" "I", Cond.fieldLink RX0 9 "ColumnDesk$Items" "cells" "[I", Cond.methodLink RX4 44 yX4_takeSolid, Cond.instanceMethod yX4_takeSolid, Cond.selects RX4 yX4_takeSolid yX4_takeSolid, Cond.initialized RX4, Cond.code yX4_takeSolid cX4_takeSolid 5 none, Cond.fieldLink RX4 34 "ColumnDesk$Sums" "limit" "I", Cond.methodLink RX4 51 Lib.MathLoose.min_long.x, Cond.static Lib.MathLoose.min_long.x, Cond.initialized "java/lang/Math", Cond.code Lib.MathLoose.min_long.x Lib.MathLoose.min_long.code 4 (some .long), Cond.fieldLink RX4 31 "ColumnDesk$Sums" "width" "J", Cond.methodLink RX4 57 Lib.MathLoose.max_long.x, Cond.static Lib.MathLoose.max_long.x, Cond.code Lib.MathLoose.max_long.x Lib.MathLoose.max_long.code 4 (some .long), Cond.methodLink RX4 48 yX4_takeGlue]
def wsX4_take_r2 : List Cond := [Cond.instanceMethod yX4_takeGlue, Cond.selects RX4 yX4_takeGlue yX4_takeGlue, Cond.code yX4_takeGlue cX4_takeGlue 4 none, Cond.fieldLink RX4 21 "ColumnDesk$Sums" "shrink" "J", Cond.fieldLink RX4 9 "ColumnDesk$Sums" "stretch" "[J"]
def wsX4_take : List Cond := .code yX4_take cX4_take 3 none :: ((wsX4_take_r1 ++ wsX4_take_r2) ++ wsX40 ++ wsX00)
def wsX5_isSize : List Cond := .code yX5_isSize cX5_isSize 2 (some .boolean) :: ([.constantLong RX5 245 (-1073741823), .constantLong RX5 247 (1073741823)])
def wsX4_areSizes : List Cond := .code yX4_areSizes cX4_areSizes 2 (some .boolean) :: ([.fieldLink RX4 9 "ColumnDesk$Sums" "stretch" "[J", .fieldLink RX4 21 "ColumnDesk$Sums" "shrink" "J", .fieldLink RX4 31 "ColumnDesk$Sums" "width" "J", .static yX5_isSize, .initialized RX5, .code yX5_isSize cX5_isSize 2 (some .boolean), .constantLong RX5 245 (-1073741823), .constantLong RX5 247 (1073741823), .methodLink RX4 64 yX4_total, .instanceMethod yX4_total, .selects RX4 yX4_total yX4_total, .initialized RX4, .code yX4_total cX4_total 1 (some .long), .fieldLink RX4 25 "ColumnDesk$Sums" "all" "J", .fieldLink RX4 28 "ColumnDesk$Sums" "depth" "J"] ++ wsX40)
def wsX5_init_r1 : List Cond := [Cond.methodLink RX5 3 objectInit, Cond.instanceMethod objectInit, Cond.code objectInit ⟨#[0xb1]⟩ 1 none, Cond.classLink RX5 9 RX0, Cond.instantiable RX0 2, Cond.initialized RX0, Cond.fieldLink RX5 14 "ColumnDesk" "column" "LColumnDesk$Items;", Cond.classLink RX5 18 RX2, Cond.instantiable RX2 6, Cond.initialized RX2, Cond.fieldLink RX5 21 "ColumnDesk" "current" "LColumnDesk$Page;", Cond.classLink RX5 25 RX3, Cond.instantiable RX3 4, Cond.initialized RX3, Cond.fieldLink RX5 28 "ColumnDesk" "shelf" "LColumnDesk$Shelf;", Cond.classLink RX5 32 RX4, Cond.instantiable RX4 6, Cond.initialized RX4, Cond.fieldLink RX5 35 "ColumnDesk" "madeSums" "LColumnDesk$Sums;", Cond.fieldLink RX5 43 "ColumnDesk" "next" "I", Cond.methodLink RX5 11 yX0_init, Cond.instanceMethod yX0_init, Cond.code yX0_init cX0_init 2 none, Cond.methodLink RX0 3 objectInit]
def wsX5_init_r2 : List Cond := [Cond.arrayClass .int, Cond.fieldLink RX0 9 "ColumnDesk$Items" "cells" "[I", Cond.instanceMethod yX2_init, Cond.code yX2_init cX2_init 1 none, Cond.methodLink RX2 3 objectInit, Cond.classLink RX2 9 RX4, Cond.fieldLink RX2 12 "ColumnDesk$Page" "sums" "LColumnDesk$Sums;", Cond.fieldLink RX2 18 "ColumnDesk$Page" "best" "I", Cond.instanceMethod yX4_init, Cond.code yX4_init cX4_init 1 none, Cond.methodLink RX4 3 objectInit, Cond.arrayClass .long, Cond.fieldLink RX4 9 "ColumnDesk$Sums" "stretch" "[J", Cond.instanceMethod yX3_init, Cond.code yX3_init cX3_init 1 none, Cond.methodLink RX3 3 objectInit, Cond.classLink RX3 9 RX1, Cond.fieldLink RX3 11 "ColumnDesk$Shelf" "pages" "[LColumnDesk$MadePage;", Cond.methodLink RX5 39 yX0_append, Cond.instanceMethod yX0_append, Cond.selects RX0 yX0_append yX0_append, Cond.code yX0_append cX0_append 1 (some .int), Cond.fieldLink RX0 15 "ColumnDesk$Items" "size" "I", Cond.methodLink RX0 19 yX0_makeRoom]
def wsX5_init_r3 : List Cond := [Cond.instanceMethod yX0_makeRoom, Cond.selects RX0 yX0_makeRoom yX0_makeRoom, Cond.code yX0_makeRoom cX0_makeRoom 3 none, Cond.methodLink RX0 36 Lib.Math.max.name, Cond.static Lib.Math.max.name, Cond.initialized "java/lang/Math", Cond.code Lib.Math.max.name Lib.Math.max.code 2 (some .int), Cond.methodLink RX0 42 Lib.Math.min.name, Cond.static Lib.Math.min.name, Cond.code Lib.Math.min.name Lib.Math.min.code 2 (some .int), Cond.methodLink RX0 45 yJ7_copyOf_59c91, Cond.static yJ7_copyOf_59c91, Cond.initialized RJ7, Cond.code yJ7_copyOf_59c91 cJ7_copyOf_59c91 3 (some (.array .int)), Cond.methodLink RJ7 316 ⟨"[I", "clone", "()Ljava/lang/Object;"⟩, Cond.sameMethod "[I" "java/lang/Object" "clone" "()Ljava/lang/Object;", Cond.native ⟨"java/lang/Object", "clone", "()Ljava/lang/Object;"⟩, Cond.instanceMethod ⟨"java/lang/Object", "clone", "()Ljava/lang/Object;"⟩, Cond.selects "[I" ⟨"[I", "clone", "()Ljava/lang/Object;"⟩ ⟨"java/lang/Object", "clone", "()Ljava/lang/Object;"⟩, Cond.classLink RJ7 317 "[I", Cond.methodLink RJ7 304 Lib.Math.min.name, Cond.methodLink RJ7 150 arraycopyName, Cond.native arraycopyName, Cond.static arraycopyName]
def wsX5_init_r4 : List Cond := [Cond.initialized "java/lang/System"]
def wsX5_init : List Cond := .code yX5_init cX5_init 1 none :: ((wsX5_init_r1 ++ (wsX5_init_r2 ++ (wsX5_init_r3 ++ wsX5_init_r4))) ++ wsX00 ++ wsX50 ++ wsX20 ++ wsX30 ++ wsX40)
def wsX5_page : List Cond := .code yX5_page cX5_page 3 (some .boolean) :: ([.fieldLink RX5 51 "ColumnDesk" "toldHeight" "I", .fieldLink RX5 54 "ColumnDesk" "toldDepth" "I", .methodLink RX5 47 yX5_isSize, .static yX5_isSize, .initialized RX5, .code yX5_isSize cX5_isSize 2 (some .boolean), .constantLong RX5 245 (-1073741823), .constantLong RX5 247 (1073741823)] ++ wsX50)
def wsX5_isGlue : List Cond := .code yX5_isGlue cX5_isGlue 4 (some .boolean) :: ([.methodLink RX5 47 yX5_isSize, .static yX5_isSize, .initialized RX5, .code yX5_isSize cX5_isSize 2 (some .boolean), .constantLong RX5 245 (-1073741823), .constantLong RX5 247 (1073741823)])
def wsX5_top : List Cond := .code yX5_top cX5_top 5 (some .boolean) :: ([.fieldLink RX5 61 "ColumnDesk" "topWidth" "I", .fieldLink RX5 64 "ColumnDesk" "topStretch" "I", .fieldLink RX5 67 "ColumnDesk" "topOrder" "I", .fieldLink RX5 70 "ColumnDesk" "topShrink" "I", .methodLink RX5 57 yX5_isGlue, .static yX5_isGlue, .initialized RX5, .code yX5_isGlue cX5_isGlue 4 (some .boolean), .methodLink RX5 47 yX5_isSize, .static yX5_isSize, .code yX5_isSize cX5_isSize 2 (some .boolean), .constantLong RX5 245 (-1073741823), .constantLong RX5 247 (1073741823)] ++ wsX50)
def wsX5_onPage : List Cond := .code yX5_onPage cX5_onPage 1 (some .int) :: ([.fieldLink RX5 21 "ColumnDesk" "current" "LColumnDesk$Page;", .fieldLink RX5 43 "ColumnDesk" "next" "I"] ++ wsX50 ++ wsX20)
def wsX5_toCome : List Cond := .code yX5_toCome cX5_toCome 1 (some .int) :: ([.fieldLink RX5 14 "ColumnDesk" "column" "LColumnDesk$Items;", .fieldLink RX5 43 "ColumnDesk" "next" "I", .methodLink RX5 89 yX0_size, .instanceMethod yX0_size, .selects RX0 yX0_size yX0_size, .initialized RX0, .code yX0_size cX0_size 1 (some .int), .fieldLink RX0 15 "ColumnDesk$Items" "size" "I"] ++ wsX50 ++ wsX00)
def wsX5_isFull_r1 : List Cond := [Cond.fieldLink RX5 28 "ColumnDesk" "shelf" "LColumnDesk$Shelf;", Cond.methodLink RX5 148 yX5_onPage, Cond.instanceMethod yX5_onPage, Cond.selects RX5 yX5_onPage yX5_onPage, Cond.initialized RX5, Cond.code yX5_onPage cX5_onPage 1 (some .int), Cond.fieldLink RX5 21 "ColumnDesk" "current" "LColumnDesk$Page;", Cond.fieldLink RX5 43 "ColumnDesk" "next" "I", Cond.methodLink RX5 145 yX5_toCome, Cond.instanceMethod yX5_toCome, Cond.selects RX5 yX5_toCome yX5_toCome, Cond.code yX5_toCome cX5_toCome 1 (some .int), Cond.fieldLink RX5 14 "ColumnDesk" "column" "LColumnDesk$Items;", Cond.methodLink RX5 89 yX0_size, Cond.instanceMethod yX0_size, Cond.selects RX0 yX0_size yX0_size, Cond.initialized RX0, Cond.code yX0_size cX0_size 1 (some .int), Cond.fieldLink RX0 15 "ColumnDesk$Items" "size" "I", Cond.methodLink RX5 182 yX3_held, Cond.instanceMethod yX3_held, Cond.selects RX3 yX3_held yX3_held, Cond.initialized RX3, Cond.code yX3_held cX3_held 4 (some .int)]
def wsX5_isFull_r2 : List Cond := [Cond.fieldLink RX3 27 "ColumnDesk$Shelf" "kept" "I", Cond.methodLink RX3 41 yX3_madePage, Cond.instanceMethod yX3_madePage, Cond.selects RX3 yX3_madePage yX3_madePage, Cond.code yX3_madePage cX3_madePage 2 (some (.object "ColumnDesk$MadePage")), Cond.fieldLink RX3 11 "ColumnDesk$Shelf" "pages" "[LColumnDesk$MadePage;", Cond.fieldLink RX3 17 "ColumnDesk$Shelf" "latest" "I", Cond.methodLink RX3 21 yJ9_floorMod_7cf53, Cond.static yJ9_floorMod_7cf53, Cond.initialized RJ9, Cond.code yJ9_floorMod_7cf53 cJ9_floorMod_7cf53 3 (some .int), Cond.methodLink RX3 49 yX0_size]
def wsX5_isFull : List Cond := .code yX5_isFull cX5_isFull 1 (some .boolean) :: ((wsX5_isFull_r1 ++ wsX5_isFull_r2) ++ wsX50 ++ wsX20 ++ wsX00 ++ wsX30 ++ wsX10)
def wsX5_addSolid_r1 : List Cond := [Cond.fieldLink RX5 14 "ColumnDesk" "column" "LColumnDesk$Items;", Cond.methodLink RX5 47 yX5_isSize, Cond.static yX5_isSize, Cond.initialized RX5, Cond.code yX5_isSize cX5_isSize 2 (some .boolean), Cond.constantLong RX5 245 (-1073741823), Cond.constantLong RX5 247 (1073741823), Cond.methodLink RX5 77 yX5_isFull, Cond.instanceMethod yX5_isFull, Cond.selects RX5 yX5_isFull yX5_isFull, Cond.code yX5_isFull cX5_isFull 1 (some .boolean), Cond.fieldLink RX5 28 "ColumnDesk" "shelf" "LColumnDesk$Shelf;", Cond.methodLink RX5 148 yX5_onPage, Cond.instanceMethod yX5_onPage, Cond.selects RX5 yX5_onPage yX5_onPage, Cond.code yX5_onPage cX5_onPage 1 (some .int), Cond.fieldLink RX5 21 "ColumnDesk" "current" "LColumnDesk$Page;", Cond.fieldLink RX5 43 "ColumnDesk" "next" "I", Cond.methodLink RX5 145 yX5_toCome, Cond.instanceMethod yX5_toCome, Cond.selects RX5 yX5_toCome yX5_toCome, Cond.code yX5_toCome cX5_toCome 1 (some .int), Cond.methodLink RX5 89 yX0_size, Cond.instanceMethod yX0_size]
def wsX5_addSolid_r2 : List Cond := [Cond.selects RX0 yX0_size yX0_size, Cond.initialized RX0, Cond.code yX0_size cX0_size 1 (some .int), Cond.fieldLink RX0 15 "ColumnDesk$Items" "size" "I", Cond.methodLink RX5 182 yX3_held, Cond.instanceMethod yX3_held, Cond.selects RX3 yX3_held yX3_held, Cond.initialized RX3, Cond.code yX3_held cX3_held 4 (some .int), Cond.fieldLink RX3 27 "ColumnDesk$Shelf" "kept" "I", Cond.methodLink RX3 41 yX3_madePage, Cond.instanceMethod yX3_madePage, Cond.selects RX3 yX3_madePage yX3_madePage, Cond.code yX3_madePage cX3_madePage 2 (some (.object "ColumnDesk$MadePage")), Cond.fieldLink RX3 11 "ColumnDesk$Shelf" "pages" "[LColumnDesk$MadePage;", Cond.fieldLink RX3 17 "ColumnDesk$Shelf" "latest" "I", Cond.methodLink RX3 21 yJ9_floorMod_7cf53, Cond.static yJ9_floorMod_7cf53, Cond.initialized RJ9, Cond.code yJ9_floorMod_7cf53 cJ9_floorMod_7cf53 3 (some .int), Cond.methodLink RX3 49 yX0_size, Cond.methodLink RX5 39 yX0_append, Cond.instanceMethod yX0_append, Cond.selects RX0 yX0_append yX0_append]
def wsX5_addSolid_r3 : List Cond := [Cond.code yX0_append cX0_append 1 (some .int), Cond.fieldLink RX0 9 "ColumnDesk$Items" "cells" "[I", Cond.methodLink RX0 19 yX0_makeRoom, Cond.instanceMethod yX0_makeRoom, Cond.selects RX0 yX0_makeRoom yX0_makeRoom, Cond.code yX0_makeRoom cX0_makeRoom 3 none, Cond.methodLink RX0 36 Lib.Math.max.name, Cond.static Lib.Math.max.name, Cond.initialized "java/lang/Math", Cond.code Lib.Math.max.name Lib.Math.max.code 2 (some .int), Cond.methodLink RX0 42 Lib.Math.min.name, Cond.static Lib.Math.min.name, Cond.code Lib.Math.min.name Lib.Math.min.code 2 (some .int), Cond.methodLink RX0 45 yJ7_copyOf_59c91, Cond.static yJ7_copyOf_59c91, Cond.initialized RJ7, Cond.code yJ7_copyOf_59c91 cJ7_copyOf_59c91 3 (some (.array .int)), Cond.methodLink RJ7 316 ⟨"[I", "clone", "()Ljava/lang/Object;"⟩, Cond.sameMethod "[I" "java/lang/Object" "clone" "()Ljava/lang/Object;", Cond.native ⟨"java/lang/Object", "clone", "()Ljava/lang/Object;"⟩, Cond.instanceMethod ⟨"java/lang/Object", "clone", "()Ljava/lang/Object;"⟩, Cond.selects "[I" ⟨"[I", "clone", "()Ljava/lang/Object;"⟩ ⟨"java/lang/Object", "clone", "()Ljava/lang/Object;"⟩, Cond.classLink RJ7 317 "[I", Cond.arrayClass .int]
def wsX5_addSolid_r4 : List Cond := [Cond.methodLink RJ7 304 Lib.Math.min.name, Cond.methodLink RJ7 150 arraycopyName, Cond.native arraycopyName, Cond.static arraycopyName, Cond.initialized "java/lang/System", Cond.methodLink RX5 178 yX0_makeSolid, Cond.instanceMethod yX0_makeSolid, Cond.selects RX0 yX0_makeSolid yX0_makeSolid, Cond.code yX0_makeSolid cX0_makeSolid 7 none, Cond.methodLink RX0 27 yX0_makePlain, Cond.instanceMethod yX0_makePlain, Cond.selects RX0 yX0_makePlain yX0_makePlain, Cond.code yX0_makePlain cX0_makePlain 5 none, Cond.methodLink RX0 23 yX0_put, Cond.instanceMethod yX0_put, Cond.selects RX0 yX0_put yX0_put, Cond.code yX0_put cX0_put 5 none]
def wsX5_addSolid : List Cond := .code yX5_addSolid cX5_addSolid 7 (some .boolean) :: ((wsX5_addSolid_r1 ++ (wsX5_addSolid_r2 ++ (wsX5_addSolid_r3 ++ wsX5_addSolid_r4))) ++ wsX50 ++ wsX20 ++ wsX00 ++ wsX30 ++ wsX10)
def wsX5_box_r1 : List Cond := [Cond.methodLink RX5 73 yX5_addSolid, Cond.instanceMethod yX5_addSolid, Cond.selects RX5 yX5_addSolid yX5_addSolid, Cond.initialized RX5, Cond.code yX5_addSolid cX5_addSolid 7 (some .boolean), Cond.fieldLink RX5 14 "ColumnDesk" "column" "LColumnDesk$Items;", Cond.methodLink RX5 47 yX5_isSize, Cond.static yX5_isSize, Cond.code yX5_isSize cX5_isSize 2 (some .boolean), Cond.constantLong RX5 245 (-1073741823), Cond.constantLong RX5 247 (1073741823), Cond.methodLink RX5 77 yX5_isFull, Cond.instanceMethod yX5_isFull, Cond.selects RX5 yX5_isFull yX5_isFull, Cond.code yX5_isFull cX5_isFull 1 (some .boolean), Cond.fieldLink RX5 28 "ColumnDesk" "shelf" "LColumnDesk$Shelf;", Cond.methodLink RX5 148 yX5_onPage, Cond.instanceMethod yX5_onPage, Cond.selects RX5 yX5_onPage yX5_onPage, Cond.code yX5_onPage cX5_onPage 1 (some .int), Cond.fieldLink RX5 21 "ColumnDesk" "current" "LColumnDesk$Page;", Cond.fieldLink RX5 43 "ColumnDesk" "next" "I", Cond.methodLink RX5 145 yX5_toCome, Cond.instanceMethod yX5_toCome]
def wsX5_box_r2 : List Cond := [Cond.selects RX5 yX5_toCome yX5_toCome, Cond.code yX5_toCome cX5_toCome 1 (some .int), Cond.methodLink RX5 89 yX0_size, Cond.instanceMethod yX0_size, Cond.selects RX0 yX0_size yX0_size, Cond.initialized RX0, Cond.code yX0_size cX0_size 1 (some .int), Cond.fieldLink RX0 15 "ColumnDesk$Items" "size" "I", Cond.methodLink RX5 182 yX3_held, Cond.instanceMethod yX3_held, Cond.selects RX3 yX3_held yX3_held, Cond.initialized RX3, Cond.code yX3_held cX3_held 4 (some .int), Cond.fieldLink RX3 27 "ColumnDesk$Shelf" "kept" "I", Cond.methodLink RX3 41 yX3_madePage, Cond.instanceMethod yX3_madePage, Cond.selects RX3 yX3_madePage yX3_madePage, Cond.code yX3_madePage cX3_madePage 2 (some (.object "ColumnDesk$MadePage")), Cond.fieldLink RX3 11 "ColumnDesk$Shelf" "pages" "[LColumnDesk$MadePage;", Cond.fieldLink RX3 17 "ColumnDesk$Shelf" "latest" "I", Cond.methodLink RX3 21 yJ9_floorMod_7cf53, Cond.static yJ9_floorMod_7cf53, Cond.initialized RJ9, Cond.code yJ9_floorMod_7cf53 cJ9_floorMod_7cf53 3 (some .int)]
def wsX5_box_r3 : List Cond := [Cond.methodLink RX3 49 yX0_size, Cond.methodLink RX5 39 yX0_append, Cond.instanceMethod yX0_append, Cond.selects RX0 yX0_append yX0_append, Cond.code yX0_append cX0_append 1 (some .int), Cond.fieldLink RX0 9 "ColumnDesk$Items" "cells" "[I", Cond.methodLink RX0 19 yX0_makeRoom, Cond.instanceMethod yX0_makeRoom, Cond.selects RX0 yX0_makeRoom yX0_makeRoom, Cond.code yX0_makeRoom cX0_makeRoom 3 none, Cond.methodLink RX0 36 Lib.Math.max.name, Cond.static Lib.Math.max.name, Cond.initialized "java/lang/Math", Cond.code Lib.Math.max.name Lib.Math.max.code 2 (some .int), Cond.methodLink RX0 42 Lib.Math.min.name, Cond.static Lib.Math.min.name, Cond.code Lib.Math.min.name Lib.Math.min.code 2 (some .int), Cond.methodLink RX0 45 yJ7_copyOf_59c91, Cond.static yJ7_copyOf_59c91, Cond.initialized RJ7, Cond.code yJ7_copyOf_59c91 cJ7_copyOf_59c91 3 (some (.array .int)), Cond.methodLink RJ7 316 ⟨"[I", "clone", "()Ljava/lang/Object;"⟩, Cond.sameMethod "[I" "java/lang/Object" "clone" "()Ljava/lang/Object;", Cond.native ⟨"java/lang/Object", "clone", "()Ljava/lang/Object;"⟩]
def wsX5_box_r4 : List Cond := [Cond.instanceMethod ⟨"java/lang/Object", "clone", "()Ljava/lang/Object;"⟩, Cond.selects "[I" ⟨"[I", "clone", "()Ljava/lang/Object;"⟩ ⟨"java/lang/Object", "clone", "()Ljava/lang/Object;"⟩, Cond.classLink RJ7 317 "[I", Cond.arrayClass .int, Cond.methodLink RJ7 304 Lib.Math.min.name, Cond.methodLink RJ7 150 arraycopyName, Cond.native arraycopyName, Cond.static arraycopyName, Cond.initialized "java/lang/System", Cond.methodLink RX5 178 yX0_makeSolid, Cond.instanceMethod yX0_makeSolid, Cond.selects RX0 yX0_makeSolid yX0_makeSolid, Cond.code yX0_makeSolid cX0_makeSolid 7 none, Cond.methodLink RX0 27 yX0_makePlain, Cond.instanceMethod yX0_makePlain, Cond.selects RX0 yX0_makePlain yX0_makePlain, Cond.code yX0_makePlain cX0_makePlain 5 none, Cond.methodLink RX0 23 yX0_put, Cond.instanceMethod yX0_put, Cond.selects RX0 yX0_put yX0_put, Cond.code yX0_put cX0_put 5 none]
def wsX5_box : List Cond := .code yX5_box cX5_box 5 (some .boolean) :: ((wsX5_box_r1 ++ (wsX5_box_r2 ++ (wsX5_box_r3 ++ wsX5_box_r4))) ++ wsX50 ++ wsX20 ++ wsX00 ++ wsX30 ++ wsX10)
def wsX5_rule_r1 : List Cond := [Cond.methodLink RX5 73 yX5_addSolid, Cond.instanceMethod yX5_addSolid, Cond.selects RX5 yX5_addSolid yX5_addSolid, Cond.initialized RX5, Cond.code yX5_addSolid cX5_addSolid 7 (some .boolean), Cond.fieldLink RX5 14 "ColumnDesk" "column" "LColumnDesk$Items;", Cond.methodLink RX5 47 yX5_isSize, Cond.static yX5_isSize, Cond.code yX5_isSize cX5_isSize 2 (some .boolean), Cond.constantLong RX5 245 (-1073741823), Cond.constantLong RX5 247 (1073741823), Cond.methodLink RX5 77 yX5_isFull, Cond.instanceMethod yX5_isFull, Cond.selects RX5 yX5_isFull yX5_isFull, Cond.code yX5_isFull cX5_isFull 1 (some .boolean), Cond.fieldLink RX5 28 "ColumnDesk" "shelf" "LColumnDesk$Shelf;", Cond.methodLink RX5 148 yX5_onPage, Cond.instanceMethod yX5_onPage, Cond.selects RX5 yX5_onPage yX5_onPage, Cond.code yX5_onPage cX5_onPage 1 (some .int), Cond.fieldLink RX5 21 "ColumnDesk" "current" "LColumnDesk$Page;", Cond.fieldLink RX5 43 "ColumnDesk" "next" "I", Cond.methodLink RX5 145 yX5_toCome, Cond.instanceMethod yX5_toCome]
def wsX5_rule_r2 : List Cond := [Cond.selects RX5 yX5_toCome yX5_toCome, Cond.code yX5_toCome cX5_toCome 1 (some .int), Cond.methodLink RX5 89 yX0_size, Cond.instanceMethod yX0_size, Cond.selects RX0 yX0_size yX0_size, Cond.initialized RX0, Cond.code yX0_size cX0_size 1 (some .int), Cond.fieldLink RX0 15 "ColumnDesk$Items" "size" "I", Cond.methodLink RX5 182 yX3_held, Cond.instanceMethod yX3_held, Cond.selects RX3 yX3_held yX3_held, Cond.initialized RX3, Cond.code yX3_held cX3_held 4 (some .int), Cond.fieldLink RX3 27 "ColumnDesk$Shelf" "kept" "I", Cond.methodLink RX3 41 yX3_madePage, Cond.instanceMethod yX3_madePage, Cond.selects RX3 yX3_madePage yX3_madePage, Cond.code yX3_madePage cX3_madePage 2 (some (.object "ColumnDesk$MadePage")), Cond.fieldLink RX3 11 "ColumnDesk$Shelf" "pages" "[LColumnDesk$MadePage;", Cond.fieldLink RX3 17 "ColumnDesk$Shelf" "latest" "I", Cond.methodLink RX3 21 yJ9_floorMod_7cf53, Cond.static yJ9_floorMod_7cf53, Cond.initialized RJ9, Cond.code yJ9_floorMod_7cf53 cJ9_floorMod_7cf53 3 (some .int)]
def wsX5_rule_r3 : List Cond := [Cond.methodLink RX3 49 yX0_size, Cond.methodLink RX5 39 yX0_append, Cond.instanceMethod yX0_append, Cond.selects RX0 yX0_append yX0_append, Cond.code yX0_append cX0_append 1 (some .int), Cond.fieldLink RX0 9 "ColumnDesk$Items" "cells" "[I", Cond.methodLink RX0 19 yX0_makeRoom, Cond.instanceMethod yX0_makeRoom, Cond.selects RX0 yX0_makeRoom yX0_makeRoom, Cond.code yX0_makeRoom cX0_makeRoom 3 none, Cond.methodLink RX0 36 Lib.Math.max.name, Cond.static Lib.Math.max.name, Cond.initialized "java/lang/Math", Cond.code Lib.Math.max.name Lib.Math.max.code 2 (some .int), Cond.methodLink RX0 42 Lib.Math.min.name, Cond.static Lib.Math.min.name, Cond.code Lib.Math.min.name Lib.Math.min.code 2 (some .int), Cond.methodLink RX0 45 yJ7_copyOf_59c91, Cond.static yJ7_copyOf_59c91, Cond.initialized RJ7, Cond.code yJ7_copyOf_59c91 cJ7_copyOf_59c91 3 (some (.array .int)), Cond.methodLink RJ7 316 ⟨"[I", "clone", "()Ljava/lang/Object;"⟩, Cond.sameMethod "[I" "java/lang/Object" "clone" "()Ljava/lang/Object;", Cond.native ⟨"java/lang/Object", "clone", "()Ljava/lang/Object;"⟩]
def wsX5_rule_r4 : List Cond := [Cond.instanceMethod ⟨"java/lang/Object", "clone", "()Ljava/lang/Object;"⟩, Cond.selects "[I" ⟨"[I", "clone", "()Ljava/lang/Object;"⟩ ⟨"java/lang/Object", "clone", "()Ljava/lang/Object;"⟩, Cond.classLink RJ7 317 "[I", Cond.arrayClass .int, Cond.methodLink RJ7 304 Lib.Math.min.name, Cond.methodLink RJ7 150 arraycopyName, Cond.native arraycopyName, Cond.static arraycopyName, Cond.initialized "java/lang/System", Cond.methodLink RX5 178 yX0_makeSolid, Cond.instanceMethod yX0_makeSolid, Cond.selects RX0 yX0_makeSolid yX0_makeSolid, Cond.code yX0_makeSolid cX0_makeSolid 7 none, Cond.methodLink RX0 27 yX0_makePlain, Cond.instanceMethod yX0_makePlain, Cond.selects RX0 yX0_makePlain yX0_makePlain, Cond.code yX0_makePlain cX0_makePlain 5 none, Cond.methodLink RX0 23 yX0_put, Cond.instanceMethod yX0_put, Cond.selects RX0 yX0_put yX0_put, Cond.code yX0_put cX0_put 5 none]
def wsX5_rule : List Cond := .code yX5_rule cX5_rule 4 (some .boolean) :: ((wsX5_rule_r1 ++ (wsX5_rule_r2 ++ (wsX5_rule_r3 ++ wsX5_rule_r4))) ++ wsX50 ++ wsX20 ++ wsX00 ++ wsX30 ++ wsX10)
def wsX5_glue_r1 : List Cond := [Cond.fieldLink RX5 14 "ColumnDesk" "column" "LColumnDesk$Items;", Cond.methodLink RX5 57 yX5_isGlue, Cond.static yX5_isGlue, Cond.initialized RX5, Cond.code yX5_isGlue cX5_isGlue 4 (some .boolean), Cond.methodLink RX5 47 yX5_isSize, Cond.static yX5_isSize, Cond.code yX5_isSize cX5_isSize 2 (some .boolean), Cond.constantLong RX5 245 (-1073741823), Cond.constantLong RX5 247 (1073741823), Cond.methodLink RX5 77 yX5_isFull, Cond.instanceMethod yX5_isFull, Cond.selects RX5 yX5_isFull yX5_isFull, Cond.code yX5_isFull cX5_isFull 1 (some .boolean), Cond.fieldLink RX5 28 "ColumnDesk" "shelf" "LColumnDesk$Shelf;", Cond.methodLink RX5 148 yX5_onPage, Cond.instanceMethod yX5_onPage, Cond.selects RX5 yX5_onPage yX5_onPage, Cond.code yX5_onPage cX5_onPage 1 (some .int), Cond.fieldLink RX5 21 "ColumnDesk" "current" "LColumnDesk$Page;", Cond.fieldLink RX5 43 "ColumnDesk" "next" "I", Cond.methodLink RX5 145 yX5_toCome, Cond.instanceMethod yX5_toCome, Cond.selects RX5 yX5_toCome yX5_toCome]
def wsX5_glue_r2 : List Cond := [Cond.code yX5_toCome cX5_toCome 1 (some .int), Cond.methodLink RX5 89 yX0_size, Cond.instanceMethod yX0_size, Cond.selects RX0 yX0_size yX0_size, Cond.initialized RX0, Cond.code yX0_size cX0_size 1 (some .int), Cond.fieldLink RX0 15 "ColumnDesk$Items" "size" "I", Cond.methodLink RX5 182 yX3_held, Cond.instanceMethod yX3_held, Cond.selects RX3 yX3_held yX3_held, Cond.initialized RX3, Cond.code yX3_held cX3_held 4 (some .int), Cond.fieldLink RX3 27 "ColumnDesk$Shelf" "kept" "I", Cond.methodLink RX3 41 yX3_madePage, Cond.instanceMethod yX3_madePage, Cond.selects RX3 yX3_madePage yX3_madePage, Cond.code yX3_madePage cX3_madePage 2 (some (.object "ColumnDesk$MadePage")), Cond.fieldLink RX3 11 "ColumnDesk$Shelf" "pages" "[LColumnDesk$MadePage;", Cond.fieldLink RX3 17 "ColumnDesk$Shelf" "latest" "I", Cond.methodLink RX3 21 yJ9_floorMod_7cf53, Cond.static yJ9_floorMod_7cf53, Cond.initialized RJ9, Cond.code yJ9_floorMod_7cf53 cJ9_floorMod_7cf53 3 (some .int), Cond.methodLink RX3 49 yX0_size]
def wsX5_glue_r3 : List Cond := [Cond.methodLink RX5 39 yX0_append, Cond.instanceMethod yX0_append, Cond.selects RX0 yX0_append yX0_append, Cond.code yX0_append cX0_append 1 (some .int), Cond.fieldLink RX0 9 "ColumnDesk$Items" "cells" "[I", Cond.methodLink RX0 19 yX0_makeRoom, Cond.instanceMethod yX0_makeRoom, Cond.selects RX0 yX0_makeRoom yX0_makeRoom, Cond.code yX0_makeRoom cX0_makeRoom 3 none, Cond.methodLink RX0 36 Lib.Math.max.name, Cond.static Lib.Math.max.name, Cond.initialized "java/lang/Math", Cond.code Lib.Math.max.name Lib.Math.max.code 2 (some .int), Cond.methodLink RX0 42 Lib.Math.min.name, Cond.static Lib.Math.min.name, Cond.code Lib.Math.min.name Lib.Math.min.code 2 (some .int), Cond.methodLink RX0 45 yJ7_copyOf_59c91, Cond.static yJ7_copyOf_59c91, Cond.initialized RJ7, Cond.code yJ7_copyOf_59c91 cJ7_copyOf_59c91 3 (some (.array .int)), Cond.methodLink RJ7 316 ⟨"[I", "clone", "()Ljava/lang/Object;"⟩, Cond.sameMethod "[I" "java/lang/Object" "clone" "()Ljava/lang/Object;", Cond.native ⟨"java/lang/Object", "clone", "()Ljava/lang/Object;"⟩, Cond.instanceMethod ⟨"java/lang/Object", "clone", "()Ljava/lang/Object;"⟩]
def wsX5_glue_r4 : List Cond := [Cond.selects "[I" ⟨"[I", "clone", "()Ljava/lang/Object;"⟩ ⟨"java/lang/Object", "clone", "()Ljava/lang/Object;"⟩, Cond.classLink RJ7 317 "[I", Cond.arrayClass .int, Cond.methodLink RJ7 304 Lib.Math.min.name, Cond.methodLink RJ7 150 arraycopyName, Cond.native arraycopyName, Cond.static arraycopyName, Cond.initialized "java/lang/System", Cond.methodLink RX5 81 yX0_makeGlue, Cond.instanceMethod yX0_makeGlue, Cond.selects RX0 yX0_makeGlue yX0_makeGlue, Cond.code yX0_makeGlue cX0_makeGlue 6 none, Cond.methodLink RX0 27 yX0_makePlain, Cond.instanceMethod yX0_makePlain, Cond.selects RX0 yX0_makePlain yX0_makePlain, Cond.code yX0_makePlain cX0_makePlain 5 none, Cond.methodLink RX0 23 yX0_put, Cond.instanceMethod yX0_put, Cond.selects RX0 yX0_put yX0_put, Cond.code yX0_put cX0_put 5 none]
def wsX5_glue : List Cond := .code yX5_glue cX5_glue 5 (some .boolean) :: ((wsX5_glue_r1 ++ (wsX5_glue_r2 ++ (wsX5_glue_r3 ++ wsX5_glue_r4))) ++ wsX50 ++ wsX20 ++ wsX00 ++ wsX30 ++ wsX10)
def wsX5_kern_r1 : List Cond := [Cond.fieldLink RX5 14 "ColumnDesk" "column" "LColumnDesk$Items;", Cond.methodLink RX5 47 yX5_isSize, Cond.static yX5_isSize, Cond.initialized RX5, Cond.code yX5_isSize cX5_isSize 2 (some .boolean), Cond.constantLong RX5 245 (-1073741823), Cond.constantLong RX5 247 (1073741823), Cond.methodLink RX5 77 yX5_isFull, Cond.instanceMethod yX5_isFull, Cond.selects RX5 yX5_isFull yX5_isFull, Cond.code yX5_isFull cX5_isFull 1 (some .boolean), Cond.fieldLink RX5 28 "ColumnDesk" "shelf" "LColumnDesk$Shelf;", Cond.methodLink RX5 148 yX5_onPage, Cond.instanceMethod yX5_onPage, Cond.selects RX5 yX5_onPage yX5_onPage, Cond.code yX5_onPage cX5_onPage 1 (some .int), Cond.fieldLink RX5 21 "ColumnDesk" "current" "LColumnDesk$Page;", Cond.fieldLink RX5 43 "ColumnDesk" "next" "I", Cond.methodLink RX5 145 yX5_toCome, Cond.instanceMethod yX5_toCome, Cond.selects RX5 yX5_toCome yX5_toCome, Cond.code yX5_toCome cX5_toCome 1 (some .int), Cond.methodLink RX5 89 yX0_size, Cond.instanceMethod yX0_size]
def wsX5_kern_r2 : List Cond := [Cond.selects RX0 yX0_size yX0_size, Cond.initialized RX0, Cond.code yX0_size cX0_size 1 (some .int), Cond.fieldLink RX0 15 "ColumnDesk$Items" "size" "I", Cond.methodLink RX5 182 yX3_held, Cond.instanceMethod yX3_held, Cond.selects RX3 yX3_held yX3_held, Cond.initialized RX3, Cond.code yX3_held cX3_held 4 (some .int), Cond.fieldLink RX3 27 "ColumnDesk$Shelf" "kept" "I", Cond.methodLink RX3 41 yX3_madePage, Cond.instanceMethod yX3_madePage, Cond.selects RX3 yX3_madePage yX3_madePage, Cond.code yX3_madePage cX3_madePage 2 (some (.object "ColumnDesk$MadePage")), Cond.fieldLink RX3 11 "ColumnDesk$Shelf" "pages" "[LColumnDesk$MadePage;", Cond.fieldLink RX3 17 "ColumnDesk$Shelf" "latest" "I", Cond.methodLink RX3 21 yJ9_floorMod_7cf53, Cond.static yJ9_floorMod_7cf53, Cond.initialized RJ9, Cond.code yJ9_floorMod_7cf53 cJ9_floorMod_7cf53 3 (some .int), Cond.methodLink RX3 49 yX0_size, Cond.methodLink RX5 39 yX0_append, Cond.instanceMethod yX0_append, Cond.selects RX0 yX0_append yX0_append]
def wsX5_kern_r3 : List Cond := [Cond.code yX0_append cX0_append 1 (some .int), Cond.fieldLink RX0 9 "ColumnDesk$Items" "cells" "[I", Cond.methodLink RX0 19 yX0_makeRoom, Cond.instanceMethod yX0_makeRoom, Cond.selects RX0 yX0_makeRoom yX0_makeRoom, Cond.code yX0_makeRoom cX0_makeRoom 3 none, Cond.methodLink RX0 36 Lib.Math.max.name, Cond.static Lib.Math.max.name, Cond.initialized "java/lang/Math", Cond.code Lib.Math.max.name Lib.Math.max.code 2 (some .int), Cond.methodLink RX0 42 Lib.Math.min.name, Cond.static Lib.Math.min.name, Cond.code Lib.Math.min.name Lib.Math.min.code 2 (some .int), Cond.methodLink RX0 45 yJ7_copyOf_59c91, Cond.static yJ7_copyOf_59c91, Cond.initialized RJ7, Cond.code yJ7_copyOf_59c91 cJ7_copyOf_59c91 3 (some (.array .int)), Cond.methodLink RJ7 316 ⟨"[I", "clone", "()Ljava/lang/Object;"⟩, Cond.sameMethod "[I" "java/lang/Object" "clone" "()Ljava/lang/Object;", Cond.native ⟨"java/lang/Object", "clone", "()Ljava/lang/Object;"⟩, Cond.instanceMethod ⟨"java/lang/Object", "clone", "()Ljava/lang/Object;"⟩, Cond.selects "[I" ⟨"[I", "clone", "()Ljava/lang/Object;"⟩ ⟨"java/lang/Object", "clone", "()Ljava/lang/Object;"⟩, Cond.classLink RJ7 317 "[I", Cond.arrayClass .int]
def wsX5_kern_r4 : List Cond := [Cond.methodLink RJ7 304 Lib.Math.min.name, Cond.methodLink RJ7 150 arraycopyName, Cond.native arraycopyName, Cond.static arraycopyName, Cond.initialized "java/lang/System", Cond.methodLink RX5 85 yX0_makePlain, Cond.instanceMethod yX0_makePlain, Cond.selects RX0 yX0_makePlain yX0_makePlain, Cond.code yX0_makePlain cX0_makePlain 5 none, Cond.methodLink RX0 23 yX0_put, Cond.instanceMethod yX0_put, Cond.selects RX0 yX0_put yX0_put, Cond.code yX0_put cX0_put 5 none]
def wsX5_kern : List Cond := .code yX5_kern cX5_kern 2 (some .boolean) :: ((wsX5_kern_r1 ++ (wsX5_kern_r2 ++ (wsX5_kern_r3 ++ wsX5_kern_r4))) ++ wsX50 ++ wsX20 ++ wsX00 ++ wsX30 ++ wsX10)
def wsX5_penalty_r1 : List Cond := [Cond.fieldLink RX5 14 "ColumnDesk" "column" "LColumnDesk$Items;", Cond.methodLink RX5 77 yX5_isFull, Cond.instanceMethod yX5_isFull, Cond.selects RX5 yX5_isFull yX5_isFull, Cond.initialized RX5, Cond.code yX5_isFull cX5_isFull 1 (some .boolean), Cond.fieldLink RX5 28 "ColumnDesk" "shelf" "LColumnDesk$Shelf;", Cond.methodLink RX5 148 yX5_onPage, Cond.instanceMethod yX5_onPage, Cond.selects RX5 yX5_onPage yX5_onPage, Cond.code yX5_onPage cX5_onPage 1 (some .int), Cond.fieldLink RX5 21 "ColumnDesk" "current" "LColumnDesk$Page;", Cond.fieldLink RX5 43 "ColumnDesk" "next" "I", Cond.methodLink RX5 145 yX5_toCome, Cond.instanceMethod yX5_toCome, Cond.selects RX5 yX5_toCome yX5_toCome, Cond.code yX5_toCome cX5_toCome 1 (some .int), Cond.methodLink RX5 89 yX0_size, Cond.instanceMethod yX0_size, Cond.selects RX0 yX0_size yX0_size, Cond.initialized RX0, Cond.code yX0_size cX0_size 1 (some .int), Cond.fieldLink RX0 15 "ColumnDesk$Items" "size" "I", Cond.methodLink RX5 182 yX3_held]
def wsX5_penalty_r2 : List Cond := [Cond.instanceMethod yX3_held, Cond.selects RX3 yX3_held yX3_held, Cond.initialized RX3, Cond.code yX3_held cX3_held 4 (some .int), Cond.fieldLink RX3 27 "ColumnDesk$Shelf" "kept" "I", Cond.methodLink RX3 41 yX3_madePage, Cond.instanceMethod yX3_madePage, Cond.selects RX3 yX3_madePage yX3_madePage, Cond.code yX3_madePage cX3_madePage 2 (some (.object "ColumnDesk$MadePage")), Cond.fieldLink RX3 11 "ColumnDesk$Shelf" "pages" "[LColumnDesk$MadePage;", Cond.fieldLink RX3 17 "ColumnDesk$Shelf" "latest" "I", Cond.methodLink RX3 21 yJ9_floorMod_7cf53, Cond.static yJ9_floorMod_7cf53, Cond.initialized RJ9, Cond.code yJ9_floorMod_7cf53 cJ9_floorMod_7cf53 3 (some .int), Cond.methodLink RX3 49 yX0_size, Cond.methodLink RX5 39 yX0_append, Cond.instanceMethod yX0_append, Cond.selects RX0 yX0_append yX0_append, Cond.code yX0_append cX0_append 1 (some .int), Cond.fieldLink RX0 9 "ColumnDesk$Items" "cells" "[I", Cond.methodLink RX0 19 yX0_makeRoom, Cond.instanceMethod yX0_makeRoom, Cond.selects RX0 yX0_makeRoom yX0_makeRoom]
def wsX5_penalty_r3 : List Cond := [Cond.code yX0_makeRoom cX0_makeRoom 3 none, Cond.methodLink RX0 36 Lib.Math.max.name, Cond.static Lib.Math.max.name, Cond.initialized "java/lang/Math", Cond.code Lib.Math.max.name Lib.Math.max.code 2 (some .int), Cond.methodLink RX0 42 Lib.Math.min.name, Cond.static Lib.Math.min.name, Cond.code Lib.Math.min.name Lib.Math.min.code 2 (some .int), Cond.methodLink RX0 45 yJ7_copyOf_59c91, Cond.static yJ7_copyOf_59c91, Cond.initialized RJ7, Cond.code yJ7_copyOf_59c91 cJ7_copyOf_59c91 3 (some (.array .int)), Cond.methodLink RJ7 316 ⟨"[I", "clone", "()Ljava/lang/Object;"⟩, Cond.sameMethod "[I" "java/lang/Object" "clone" "()Ljava/lang/Object;", Cond.native ⟨"java/lang/Object", "clone", "()Ljava/lang/Object;"⟩, Cond.instanceMethod ⟨"java/lang/Object", "clone", "()Ljava/lang/Object;"⟩, Cond.selects "[I" ⟨"[I", "clone", "()Ljava/lang/Object;"⟩ ⟨"java/lang/Object", "clone", "()Ljava/lang/Object;"⟩, Cond.classLink RJ7 317 "[I", Cond.arrayClass .int, Cond.methodLink RJ7 304 Lib.Math.min.name, Cond.methodLink RJ7 150 arraycopyName, Cond.native arraycopyName, Cond.static arraycopyName, Cond.initialized "java/lang/System"]
def wsX5_penalty_r4 : List Cond := [Cond.methodLink RX5 85 yX0_makePlain, Cond.instanceMethod yX0_makePlain, Cond.selects RX0 yX0_makePlain yX0_makePlain, Cond.code yX0_makePlain cX0_makePlain 5 none, Cond.methodLink RX0 23 yX0_put, Cond.instanceMethod yX0_put, Cond.selects RX0 yX0_put yX0_put, Cond.code yX0_put cX0_put 5 none]
def wsX5_penalty : List Cond := .code yX5_penalty cX5_penalty 2 (some .boolean) :: ((wsX5_penalty_r1 ++ (wsX5_penalty_r2 ++ (wsX5_penalty_r3 ++ wsX5_penalty_r4))) ++ wsX50 ++ wsX20 ++ wsX00 ++ wsX30 ++ wsX10)
def wsX5_isSolid : List Cond := .code yX5_isSolid cX5_isSolid 1 (some .boolean) :: ([])
def wsX5_beginPage_r1 : List Cond := [Cond.fieldLink RX5 43 "ColumnDesk" "next" "I", Cond.fieldLink RX5 61 "ColumnDesk" "topWidth" "I", Cond.fieldLink RX5 14 "ColumnDesk" "column" "LColumnDesk$Items;", Cond.methodLink RX5 205 Lib.Math.max.name, Cond.static Lib.Math.max.name, Cond.initialized "java/lang/Math", Cond.code Lib.Math.max.name Lib.Math.max.code 2 (some .int), Cond.fieldLink RX5 64 "ColumnDesk" "topStretch" "I", Cond.fieldLink RX5 67 "ColumnDesk" "topOrder" "I", Cond.fieldLink RX5 70 "ColumnDesk" "topShrink" "I", Cond.fieldLink RX5 21 "ColumnDesk" "current" "LColumnDesk$Page;", Cond.fieldLink RX5 51 "ColumnDesk" "toldHeight" "I", Cond.fieldLink RX5 54 "ColumnDesk" "toldDepth" "I", Cond.methodLink RX5 138 yX0_at, Cond.instanceMethod yX0_at, Cond.selects RX0 yX0_at yX0_at, Cond.initialized RX0, Cond.code yX0_at cX0_at 4 (some .int), Cond.fieldLink RX0 15 "ColumnDesk$Items" "size" "I", Cond.fieldLink RX0 9 "ColumnDesk$Items" "cells" "[I", Cond.methodLink RX5 81 yX0_makeGlue, Cond.instanceMethod yX0_makeGlue, Cond.selects RX0 yX0_makeGlue yX0_makeGlue, Cond.code yX0_makeGlue cX0_makeGlue 6 none]
def wsX5_beginPage_r2 : List Cond := [Cond.methodLink RX0 27 yX0_makePlain, Cond.instanceMethod yX0_makePlain, Cond.selects RX0 yX0_makePlain yX0_makePlain, Cond.code yX0_makePlain cX0_makePlain 5 none, Cond.methodLink RX0 23 yX0_put, Cond.instanceMethod yX0_put, Cond.selects RX0 yX0_put yX0_put, Cond.code yX0_put cX0_put 5 none, Cond.methodLink RX5 210 yX2_begin, Cond.instanceMethod yX2_begin, Cond.selects RX2 yX2_begin yX2_begin, Cond.initialized RX2, Cond.code yX2_begin cX2_begin 4 none, Cond.fieldLink RX2 22 "ColumnDesk$Page" "begun" "Z", Cond.fieldLink RX2 26 "ColumnDesk$Page" "first" "I", Cond.fieldLink RX2 29 "ColumnDesk$Page" "goal" "I", Cond.fieldLink RX2 12 "ColumnDesk$Page" "sums" "LColumnDesk$Sums;", Cond.methodLink RX2 32 yX4_clear, Cond.instanceMethod yX4_clear, Cond.selects RX4 yX4_clear yX4_clear, Cond.initialized RX4, Cond.code yX4_clear cX4_clear 2 none, Cond.fieldLink RX4 9 "ColumnDesk$Sums" "stretch" "[J", Cond.fieldLink RX4 21 "ColumnDesk$Sums" "shrink" "J"]
def wsX5_beginPage_r3 : List Cond := [Cond.fieldLink RX4 25 "ColumnDesk$Sums" "all" "J", Cond.fieldLink RX4 28 "ColumnDesk$Sums" "depth" "J", Cond.fieldLink RX4 31 "ColumnDesk$Sums" "width" "J", Cond.fieldLink RX4 34 "ColumnDesk$Sums" "limit" "I", Cond.methodLink RX4 15 yJ7_fill_d0a16, Cond.static yJ7_fill_d0a16, Cond.initialized RJ7, Cond.code yJ7_fill_d0a16 cJ7_fill_d0a16 5 none, Cond.methodLink RX5 201 yX4_take, Cond.instanceMethod yX4_take, Cond.selects RX4 yX4_take yX4_take, Cond.code yX4_take cX4_take 3 none, Cond.methodLink RX4 38 yX0_at, Cond.methodLink RX4 44 yX4_takeSolid, Cond.instanceMethod yX4_takeSolid, Cond.selects RX4 yX4_takeSolid yX4_takeSolid, Cond.code yX4_takeSolid cX4_takeSolid 5 none, Cond.methodLink RX4 51 Lib.MathLoose.min_long.x, Cond.static Lib.MathLoose.min_long.x, Cond.code Lib.MathLoose.min_long.x Lib.MathLoose.min_long.code 4 (some .long), Cond.methodLink RX4 57 Lib.MathLoose.max_long.x, Cond.static Lib.MathLoose.max_long.x, Cond.code Lib.MathLoose.max_long.x Lib.MathLoose.max_long.code 4 (some .long), Cond.methodLink RX4 48 yX4_takeGlue]
def wsX5_beginPage_r4 : List Cond := [Cond.instanceMethod yX4_takeGlue, Cond.selects RX4 yX4_takeGlue yX4_takeGlue, Cond.code yX4_takeGlue cX4_takeGlue 4 none]
def wsX5_beginPage : List Cond := .code yX5_beginPage cX5_beginPage 3 none :: ((wsX5_beginPage_r1 ++ (wsX5_beginPage_r2 ++ (wsX5_beginPage_r3 ++ wsX5_beginPage_r4))) ++ wsX50 ++ wsX20 ++ wsX00 ++ wsX40)
def wsX5_isBreak : List Cond := .code yX5_isBreak cX5_isBreak 2 (some .boolean) :: ([.fieldLink RX5 14 "ColumnDesk" "column" "LColumnDesk$Items;", .fieldLink RX5 43 "ColumnDesk" "next" "I", .methodLink RX5 138 yX0_at, .instanceMethod yX0_at, .selects RX0 yX0_at yX0_at, .initialized RX0, .code yX0_at cX0_at 4 (some .int), .fieldLink RX0 15 "ColumnDesk$Items" "size" "I", .fieldLink RX0 9 "ColumnDesk$Items" "cells" "[I", .methodLink RX5 188 yX5_isSolid, .static yX5_isSolid, .initialized RX5, .code yX5_isSolid cX5_isSolid 1 (some .boolean), .methodLink RX5 145 yX5_toCome, .instanceMethod yX5_toCome, .selects RX5 yX5_toCome yX5_toCome, .code yX5_toCome cX5_toCome 1 (some .int), .methodLink RX5 89 yX0_size, .instanceMethod yX0_size, .selects RX0 yX0_size yX0_size, .code yX0_size cX0_size 1 (some .int)] ++ wsX50 ++ wsX00)
def wsX5_endsAtBreak_r1 : List Cond := [Cond.fieldLink RX5 14 "ColumnDesk" "column" "LColumnDesk$Items;", Cond.fieldLink RX5 43 "ColumnDesk" "next" "I", Cond.fieldLink RX5 21 "ColumnDesk" "current" "LColumnDesk$Page;", Cond.methodLink RX5 138 yX0_at, Cond.instanceMethod yX0_at, Cond.selects RX0 yX0_at yX0_at, Cond.initialized RX0, Cond.code yX0_at cX0_at 4 (some .int), Cond.fieldLink RX0 15 "ColumnDesk$Items" "size" "I", Cond.fieldLink RX0 9 "ColumnDesk$Items" "cells" "[I", Cond.methodLink RX5 148 yX5_onPage, Cond.instanceMethod yX5_onPage, Cond.selects RX5 yX5_onPage yX5_onPage, Cond.initialized RX5, Cond.code yX5_onPage cX5_onPage 1 (some .int), Cond.methodLink RX5 213 yX2_weigh, Cond.instanceMethod yX2_weigh, Cond.selects RX2 yX2_weigh yX2_weigh, Cond.initialized RX2, Cond.code yX2_weigh cX2_weigh 8 (some .boolean), Cond.constantLong RX2 44 (-1), Cond.fieldLink RX2 36 "ColumnDesk$Page" "leastCost" "J", Cond.fieldLink RX2 18 "ColumnDesk$Page" "best" "I", Cond.methodLink RX2 40 yX2_badnessNow]
def wsX5_endsAtBreak_r2 : List Cond := [Cond.instanceMethod yX2_badnessNow, Cond.selects RX2 yX2_badnessNow yX2_badnessNow, Cond.code yX2_badnessNow cX2_badnessNow 3 (some .long), Cond.fieldLink RX2 29 "ColumnDesk$Page" "goal" "I", Cond.fieldLink RX2 12 "ColumnDesk$Page" "sums" "LColumnDesk$Sums;", Cond.methodLink RX2 54 yX4_total, Cond.instanceMethod yX4_total, Cond.selects RX4 yX4_total yX4_total, Cond.initialized RX4, Cond.code yX4_total cX4_total 1 (some .long), Cond.fieldLink RX4 25 "ColumnDesk$Sums" "all" "J", Cond.fieldLink RX4 28 "ColumnDesk$Sums" "depth" "J", Cond.static yX5_badness, Cond.code yX5_badness cX5_badness 6 (some .long), Cond.constantLong RX5 249 (10000), Cond.constantLong RX5 251 (297), Cond.constantLong RX5 253 (1290), Cond.constantLong RX5 255 (131072), Cond.constantLong RX5 257 (262144), Cond.methodLink RX2 64 yX4_highestOrder, Cond.instanceMethod yX4_highestOrder, Cond.selects RX4 yX4_highestOrder yX4_highestOrder, Cond.code yX4_highestOrder cX4_highestOrder 2 (some .int), Cond.fieldLink RX4 9 "ColumnDesk$Sums" "stretch" "[J"]
def wsX5_endsAtBreak_r3 : List Cond := [Cond.methodLink RX2 68 yX4_stretchOf, Cond.instanceMethod yX4_stretchOf, Cond.selects RX4 yX4_stretchOf yX4_stretchOf, Cond.code yX4_stretchOf cX4_stretchOf 2 (some .long), Cond.methodLink RX2 46 yX2_costOf, Cond.static yX2_costOf, Cond.code yX2_costOf cX2_costOf 3 (some .long), Cond.constantLong RX2 72 (10000), Cond.constantLong RX2 74 (100000), Cond.methodLink RX2 50 yX2_hasBest, Cond.instanceMethod yX2_hasBest, Cond.selects RX2 yX2_hasBest yX2_hasBest, Cond.code yX2_hasBest cX2_hasBest 1 (some .boolean)]
def wsX5_endsAtBreak : List Cond := .code yX5_endsAtBreak cX5_endsAtBreak 3 (some .boolean) :: ((wsX5_endsAtBreak_r1 ++ (wsX5_endsAtBreak_r2 ++ wsX5_endsAtBreak_r3)) ++ wsX50 ++ wsX00 ++ wsX20 ++ wsX40)
def wsX5_fillPage_r1 : List Cond := [Cond.fieldLink RX5 14 "ColumnDesk" "column" "LColumnDesk$Items;", Cond.fieldLink RX5 43 "ColumnDesk" "next" "I", Cond.fieldLink RX5 21 "ColumnDesk" "current" "LColumnDesk$Page;", Cond.methodLink RX5 145 yX5_toCome, Cond.instanceMethod yX5_toCome, Cond.selects RX5 yX5_toCome yX5_toCome, Cond.initialized RX5, Cond.code yX5_toCome cX5_toCome 1 (some .int), Cond.methodLink RX5 89 yX0_size, Cond.instanceMethod yX0_size, Cond.selects RX0 yX0_size yX0_size, Cond.initialized RX0, Cond.code yX0_size cX0_size 1 (some .int), Cond.fieldLink RX0 15 "ColumnDesk$Items" "size" "I", Cond.methodLink RX5 138 yX0_at, Cond.instanceMethod yX0_at, Cond.selects RX0 yX0_at yX0_at, Cond.code yX0_at cX0_at 4 (some .int), Cond.fieldLink RX0 9 "ColumnDesk$Items" "cells" "[I", Cond.methodLink RX5 188 yX5_isSolid, Cond.static yX5_isSolid, Cond.code yX5_isSolid cX5_isSolid 1 (some .boolean), Cond.methodLink RX5 192 yX5_beginPage, Cond.instanceMethod yX5_beginPage]
def wsX5_fillPage_r2 : List Cond := [Cond.selects RX5 yX5_beginPage yX5_beginPage, Cond.code yX5_beginPage cX5_beginPage 3 none, Cond.fieldLink RX5 61 "ColumnDesk" "topWidth" "I", Cond.methodLink RX5 205 Lib.Math.max.name, Cond.static Lib.Math.max.name, Cond.initialized "java/lang/Math", Cond.code Lib.Math.max.name Lib.Math.max.code 2 (some .int), Cond.fieldLink RX5 64 "ColumnDesk" "topStretch" "I", Cond.fieldLink RX5 67 "ColumnDesk" "topOrder" "I", Cond.fieldLink RX5 70 "ColumnDesk" "topShrink" "I", Cond.fieldLink RX5 51 "ColumnDesk" "toldHeight" "I", Cond.fieldLink RX5 54 "ColumnDesk" "toldDepth" "I", Cond.methodLink RX5 81 yX0_makeGlue, Cond.instanceMethod yX0_makeGlue, Cond.selects RX0 yX0_makeGlue yX0_makeGlue, Cond.code yX0_makeGlue cX0_makeGlue 6 none, Cond.methodLink RX0 27 yX0_makePlain, Cond.instanceMethod yX0_makePlain, Cond.selects RX0 yX0_makePlain yX0_makePlain, Cond.code yX0_makePlain cX0_makePlain 5 none, Cond.methodLink RX0 23 yX0_put, Cond.instanceMethod yX0_put, Cond.selects RX0 yX0_put yX0_put, Cond.code yX0_put cX0_put 5 none]
def wsX5_fillPage_r3 : List Cond := [Cond.methodLink RX5 210 yX2_begin, Cond.instanceMethod yX2_begin, Cond.selects RX2 yX2_begin yX2_begin, Cond.initialized RX2, Cond.code yX2_begin cX2_begin 4 none, Cond.fieldLink RX2 22 "ColumnDesk$Page" "begun" "Z", Cond.fieldLink RX2 26 "ColumnDesk$Page" "first" "I", Cond.fieldLink RX2 29 "ColumnDesk$Page" "goal" "I", Cond.fieldLink RX2 12 "ColumnDesk$Page" "sums" "LColumnDesk$Sums;", Cond.methodLink RX2 32 yX4_clear, Cond.instanceMethod yX4_clear, Cond.selects RX4 yX4_clear yX4_clear, Cond.initialized RX4, Cond.code yX4_clear cX4_clear 2 none, Cond.fieldLink RX4 9 "ColumnDesk$Sums" "stretch" "[J", Cond.fieldLink RX4 21 "ColumnDesk$Sums" "shrink" "J", Cond.fieldLink RX4 25 "ColumnDesk$Sums" "all" "J", Cond.fieldLink RX4 28 "ColumnDesk$Sums" "depth" "J", Cond.fieldLink RX4 31 "ColumnDesk$Sums" "width" "J", Cond.fieldLink RX4 34 "ColumnDesk$Sums" "limit" "I", Cond.methodLink RX4 15 yJ7_fill_d0a16, Cond.static yJ7_fill_d0a16, Cond.initialized RJ7, Cond.code yJ7_fill_d0a16 cJ7_fill_d0a16 5 none]
def wsX5_fillPage_r4 : List Cond := [Cond.methodLink RX5 201 yX4_take, Cond.instanceMethod yX4_take, Cond.selects RX4 yX4_take yX4_take, Cond.code yX4_take cX4_take 3 none, Cond.methodLink RX4 38 yX0_at, Cond.methodLink RX4 44 yX4_takeSolid, Cond.instanceMethod yX4_takeSolid, Cond.selects RX4 yX4_takeSolid yX4_takeSolid, Cond.code yX4_takeSolid cX4_takeSolid 5 none, Cond.methodLink RX4 51 Lib.MathLoose.min_long.x, Cond.static Lib.MathLoose.min_long.x, Cond.code Lib.MathLoose.min_long.x Lib.MathLoose.min_long.code 4 (some .long), Cond.methodLink RX4 57 Lib.MathLoose.max_long.x, Cond.static Lib.MathLoose.max_long.x, Cond.code Lib.MathLoose.max_long.x Lib.MathLoose.max_long.code 4 (some .long), Cond.methodLink RX4 48 yX4_takeGlue, Cond.instanceMethod yX4_takeGlue, Cond.selects RX4 yX4_takeGlue yX4_takeGlue, Cond.code yX4_takeGlue cX4_takeGlue 4 none, Cond.methodLink RX5 195 yX5_isBreak, Cond.instanceMethod yX5_isBreak, Cond.selects RX5 yX5_isBreak yX5_isBreak, Cond.code yX5_isBreak cX5_isBreak 2 (some .boolean), Cond.methodLink RX5 198 yX5_endsAtBreak]
def wsX5_fillPage_r5 : List Cond := [Cond.instanceMethod yX5_endsAtBreak, Cond.selects RX5 yX5_endsAtBreak yX5_endsAtBreak, Cond.code yX5_endsAtBreak cX5_endsAtBreak 3 (some .boolean), Cond.methodLink RX5 148 yX5_onPage, Cond.instanceMethod yX5_onPage, Cond.selects RX5 yX5_onPage yX5_onPage, Cond.code yX5_onPage cX5_onPage 1 (some .int), Cond.methodLink RX5 213 yX2_weigh, Cond.instanceMethod yX2_weigh, Cond.selects RX2 yX2_weigh yX2_weigh, Cond.code yX2_weigh cX2_weigh 8 (some .boolean), Cond.constantLong RX2 44 (-1), Cond.fieldLink RX2 36 "ColumnDesk$Page" "leastCost" "J", Cond.fieldLink RX2 18 "ColumnDesk$Page" "best" "I", Cond.methodLink RX2 40 yX2_badnessNow, Cond.instanceMethod yX2_badnessNow, Cond.selects RX2 yX2_badnessNow yX2_badnessNow, Cond.code yX2_badnessNow cX2_badnessNow 3 (some .long), Cond.methodLink RX2 54 yX4_total, Cond.instanceMethod yX4_total, Cond.selects RX4 yX4_total yX4_total, Cond.code yX4_total cX4_total 1 (some .long), Cond.static yX5_badness, Cond.code yX5_badness cX5_badness 6 (some .long)]
def wsX5_fillPage_r6 : List Cond := [Cond.constantLong RX5 249 (10000), Cond.constantLong RX5 251 (297), Cond.constantLong RX5 253 (1290), Cond.constantLong RX5 255 (131072), Cond.constantLong RX5 257 (262144), Cond.methodLink RX2 64 yX4_highestOrder, Cond.instanceMethod yX4_highestOrder, Cond.selects RX4 yX4_highestOrder yX4_highestOrder, Cond.code yX4_highestOrder cX4_highestOrder 2 (some .int), Cond.methodLink RX2 68 yX4_stretchOf, Cond.instanceMethod yX4_stretchOf, Cond.selects RX4 yX4_stretchOf yX4_stretchOf, Cond.code yX4_stretchOf cX4_stretchOf 2 (some .long), Cond.methodLink RX2 46 yX2_costOf, Cond.static yX2_costOf, Cond.code yX2_costOf cX2_costOf 3 (some .long), Cond.constantLong RX2 72 (10000), Cond.constantLong RX2 74 (100000), Cond.methodLink RX2 50 yX2_hasBest, Cond.instanceMethod yX2_hasBest, Cond.selects RX2 yX2_hasBest yX2_hasBest, Cond.code yX2_hasBest cX2_hasBest 1 (some .boolean)]
def wsX5_fillPage : List Cond := .code yX5_fillPage cX5_fillPage 4 (some .boolean) :: ((wsX5_fillPage_r1 ++ (wsX5_fillPage_r2 ++ (wsX5_fillPage_r3 ++ (wsX5_fillPage_r4 ++ (wsX5_fillPage_r5 ++ wsX5_fillPage_r6))))) ++ wsX50 ++ wsX20 ++ wsX00 ++ wsX40)
def wsX5_endPage_r1 : List Cond := [Cond.fieldLink RX5 21 "ColumnDesk" "current" "LColumnDesk$Page;", Cond.fieldLink RX5 43 "ColumnDesk" "next" "I", Cond.fieldLink RX5 35 "ColumnDesk" "madeSums" "LColumnDesk$Sums;", Cond.fieldLink RX5 14 "ColumnDesk" "column" "LColumnDesk$Items;", Cond.fieldLink RX5 28 "ColumnDesk" "shelf" "LColumnDesk$Shelf;", Cond.methodLink RX5 151 yX2_hasBest, Cond.instanceMethod yX2_hasBest, Cond.selects RX2 yX2_hasBest yX2_hasBest, Cond.initialized RX2, Cond.code yX2_hasBest cX2_hasBest 1 (some .boolean), Cond.fieldLink RX2 18 "ColumnDesk$Page" "best" "I", Cond.methodLink RX5 223 yX4_clear, Cond.instanceMethod yX4_clear, Cond.selects RX4 yX4_clear yX4_clear, Cond.initialized RX4, Cond.code yX4_clear cX4_clear 2 none, Cond.fieldLink RX4 9 "ColumnDesk$Sums" "stretch" "[J", Cond.fieldLink RX4 21 "ColumnDesk$Sums" "shrink" "J", Cond.fieldLink RX4 25 "ColumnDesk$Sums" "all" "J", Cond.fieldLink RX4 28 "ColumnDesk$Sums" "depth" "J", Cond.fieldLink RX4 31 "ColumnDesk$Sums" "width" "J", Cond.fieldLink RX4 34 "ColumnDesk$Sums" "limit" "I", Cond.methodLink RX4 15 yJ7_fill_d0a16, Cond.static yJ7_fill_d0a16]
def wsX5_endPage_r2 : List Cond := [Cond.initialized RJ7, Cond.code yJ7_fill_d0a16 cJ7_fill_d0a16 5 none, Cond.methodLink RX5 201 yX4_take, Cond.instanceMethod yX4_take, Cond.selects RX4 yX4_take yX4_take, Cond.code yX4_take cX4_take 3 none, Cond.methodLink RX4 38 yX0_at, Cond.instanceMethod yX0_at, Cond.selects RX0 yX0_at yX0_at, Cond.initialized RX0, Cond.code yX0_at cX0_at 4 (some .int), Cond.fieldLink RX0 15 "ColumnDesk$Items" "size" "I", Cond.fieldLink RX0 9 "ColumnDesk$Items" "cells" "[I", Cond.methodLink RX4 44 yX4_takeSolid, Cond.instanceMethod yX4_takeSolid, Cond.selects RX4 yX4_takeSolid yX4_takeSolid, Cond.code yX4_takeSolid cX4_takeSolid 5 none, Cond.methodLink RX4 51 Lib.MathLoose.min_long.x, Cond.static Lib.MathLoose.min_long.x, Cond.initialized "java/lang/Math", Cond.code Lib.MathLoose.min_long.x Lib.MathLoose.min_long.code 4 (some .long), Cond.methodLink RX4 57 Lib.MathLoose.max_long.x, Cond.static Lib.MathLoose.max_long.x, Cond.code Lib.MathLoose.max_long.x Lib.MathLoose.max_long.code 4 (some .long)]
def wsX5_endPage_r3 : List Cond := [Cond.methodLink RX4 48 yX4_takeGlue, Cond.instanceMethod yX4_takeGlue, Cond.selects RX4 yX4_takeGlue yX4_takeGlue, Cond.code yX4_takeGlue cX4_takeGlue 4 none, Cond.methodLink RX5 226 yX4_areSizes, Cond.instanceMethod yX4_areSizes, Cond.selects RX4 yX4_areSizes yX4_areSizes, Cond.code yX4_areSizes cX4_areSizes 2 (some .boolean), Cond.static yX5_isSize, Cond.initialized RX5, Cond.code yX5_isSize cX5_isSize 2 (some .boolean), Cond.constantLong RX5 245 (-1073741823), Cond.constantLong RX5 247 (1073741823), Cond.methodLink RX4 64 yX4_total, Cond.instanceMethod yX4_total, Cond.selects RX4 yX4_total yX4_total, Cond.code yX4_total cX4_total 1 (some .long), Cond.methodLink RX5 232 yX3_put, Cond.instanceMethod yX3_put, Cond.selects RX3 yX3_put yX3_put, Cond.initialized RX3, Cond.code yX3_put cX3_put 7 none, Cond.fieldLink RX3 17 "ColumnDesk$Shelf" "latest" "I", Cond.fieldLink RX3 27 "ColumnDesk$Shelf" "kept" "I"]
def wsX5_endPage_r4 : List Cond := [Cond.methodLink RX3 30 Lib.Math.min.name, Cond.static Lib.Math.min.name, Cond.code Lib.Math.min.name Lib.Math.min.code 2 (some .int), Cond.fieldLink RX3 33 "ColumnDesk$Shelf" "everMade" "I", Cond.fieldLink RX3 11 "ColumnDesk$Shelf" "pages" "[LColumnDesk$MadePage;", Cond.classLink RX3 9 RX1, Cond.instantiable RX1 4, Cond.initialized RX1, Cond.methodLink RX3 21 yJ9_floorMod_7cf53, Cond.static yJ9_floorMod_7cf53, Cond.initialized RJ9, Cond.code yJ9_floorMod_7cf53 cJ9_floorMod_7cf53 3 (some .int), Cond.instanceMethod yX1_init, Cond.code yX1_init cX1_init 1 none, Cond.methodLink RX1 3 objectInit, Cond.instanceMethod objectInit, Cond.code objectInit ⟨#[0xb1]⟩ 1 none, Cond.classLink RX1 9 RX0, Cond.instantiable RX0 2, Cond.fieldLink RX1 14 "ColumnDesk$MadePage" "items" "LColumnDesk$Items;", Cond.methodLink RX1 11 yX0_init, Cond.instanceMethod yX0_init, Cond.code yX0_init cX0_init 2 none, Cond.methodLink RX0 3 objectInit]
def wsX5_endPage_r5 : List Cond := [Cond.arrayClass .int, Cond.methodLink RX3 37 yX1_make, Cond.instanceMethod yX1_make, Cond.selects RX1 yX1_make yX1_make, Cond.code yX1_make cX1_make 6 none, Cond.fieldLink RX1 24 "ColumnDesk$MadePage" "height" "I", Cond.fieldLink RX1 34 "ColumnDesk$MadePage" "depth" "I", Cond.fieldLink RX1 39 "ColumnDesk$MadePage" "width" "I", Cond.methodLink RX1 20 yX0_copyFrom, Cond.instanceMethod yX0_copyFrom, Cond.selects RX0 yX0_copyFrom yX0_copyFrom, Cond.code yX0_copyFrom cX0_copyFrom 5 none, Cond.methodLink RX0 30 arraycopyName, Cond.native arraycopyName, Cond.static arraycopyName, Cond.initialized "java/lang/System", Cond.methodLink RX0 19 yX0_makeRoom, Cond.instanceMethod yX0_makeRoom, Cond.selects RX0 yX0_makeRoom yX0_makeRoom, Cond.code yX0_makeRoom cX0_makeRoom 3 none, Cond.methodLink RX0 36 Lib.Math.max.name, Cond.static Lib.Math.max.name, Cond.code Lib.Math.max.name Lib.Math.max.code 2 (some .int), Cond.methodLink RX0 42 Lib.Math.min.name]
def wsX5_endPage_r6 : List Cond := [Cond.methodLink RX0 45 yJ7_copyOf_59c91, Cond.static yJ7_copyOf_59c91, Cond.code yJ7_copyOf_59c91 cJ7_copyOf_59c91 3 (some (.array .int)), Cond.methodLink RJ7 316 ⟨"[I", "clone", "()Ljava/lang/Object;"⟩, Cond.sameMethod "[I" "java/lang/Object" "clone" "()Ljava/lang/Object;", Cond.native ⟨"java/lang/Object", "clone", "()Ljava/lang/Object;"⟩, Cond.instanceMethod ⟨"java/lang/Object", "clone", "()Ljava/lang/Object;"⟩, Cond.selects "[I" ⟨"[I", "clone", "()Ljava/lang/Object;"⟩ ⟨"java/lang/Object", "clone", "()Ljava/lang/Object;"⟩, Cond.classLink RJ7 317 "[I", Cond.methodLink RJ7 304 Lib.Math.min.name, Cond.methodLink RJ7 150 arraycopyName, Cond.methodLink RX1 41 yX4_total, Cond.methodLink RX1 45 yX1_setGlue, Cond.instanceMethod yX1_setGlue, Cond.selects RX1 yX1_setGlue yX1_setGlue, Cond.code yX1_setGlue cX1_setGlue 5 none, Cond.methodLink RX1 64 Lib.MathLoose.max_long.x, Cond.methodLink RX1 49 yX4_highestOrder, Cond.instanceMethod yX4_highestOrder, Cond.selects RX4 yX4_highestOrder yX4_highestOrder, Cond.code yX4_highestOrder cX4_highestOrder 2 (some .int), Cond.methodLink RX1 53 yX4_stretchOf, Cond.instanceMethod yX4_stretchOf, Cond.selects RX4 yX4_stretchOf yX4_stretchOf]
def wsX5_endPage_r7 : List Cond := [Cond.code yX4_stretchOf cX4_stretchOf 2 (some .long), Cond.methodLink RX1 57 yX1_spread, Cond.instanceMethod yX1_spread, Cond.selects RX1 yX1_spread yX1_spread, Cond.code yX1_spread cX1_spread 13 none, Cond.methodLink RX1 70 yX0_size, Cond.instanceMethod yX0_size, Cond.selects RX0 yX0_size yX0_size, Cond.code yX0_size cX0_size 1 (some .int), Cond.methodLink RX1 73 yX0_at, Cond.methodLink RX1 77 yX1_shareOf, Cond.instanceMethod yX1_shareOf, Cond.selects RX1 yX1_shareOf yX1_shareOf, Cond.code yX1_shareOf cX1_shareOf 3 (some .int), Cond.static yX5_near, Cond.code yX5_near cX5_near 6 (some .long), Cond.constantLong RX5 259 (2), Cond.methodLink RX5 261 Lib.MathLoose.abs_long.x, Cond.static Lib.MathLoose.abs_long.x, Cond.code Lib.MathLoose.abs_long.x Lib.MathLoose.abs_long.code 2 (some .long), Cond.methodLink RX1 83 yX1_within, Cond.static yX1_within, Cond.code yX1_within cX1_within 2 (some .int), Cond.constantLong RX1 91 (-2147483647)]
def wsX5_endPage_r8 : List Cond := [Cond.constantLong RX1 93 (2147483647), Cond.methodLink RX1 95 Lib.MathLoose.min_long.x, Cond.methodLink RX1 87 yX0_put, Cond.instanceMethod yX0_put, Cond.selects RX0 yX0_put yX0_put, Cond.code yX0_put cX0_put 5 none, Cond.methodLink RX5 236 yX2_forget, Cond.instanceMethod yX2_forget, Cond.selects RX2 yX2_forget yX2_forget, Cond.code yX2_forget cX2_forget 1 none, Cond.fieldLink RX2 22 "ColumnDesk$Page" "begun" "Z", Cond.fieldLink RX2 26 "ColumnDesk$Page" "first" "I", Cond.fieldLink RX2 36 "ColumnDesk$Page" "leastCost" "J"]
def wsX5_endPage : List Cond := .code yX5_endPage cX5_endPage 4 (some .boolean) :: ((wsX5_endPage_r1 ++ (wsX5_endPage_r2 ++ (wsX5_endPage_r3 ++ (wsX5_endPage_r4 ++ (wsX5_endPage_r5 ++ (wsX5_endPage_r6 ++ (wsX5_endPage_r7 ++ wsX5_endPage_r8))))))) ++ wsX50 ++ wsX20 ++ wsX40 ++ wsX00 ++ wsX30 ++ wsX10)
def wsX5_loseAll_r1 : List Cond := [Cond.fieldLink RX5 28 "ColumnDesk" "shelf" "LColumnDesk$Shelf;", Cond.fieldLink RX5 21 "ColumnDesk" "current" "LColumnDesk$Page;", Cond.fieldLink RX5 14 "ColumnDesk" "column" "LColumnDesk$Items;", Cond.fieldLink RX5 43 "ColumnDesk" "next" "I", Cond.methodLink RX5 239 yX3_clear, Cond.instanceMethod yX3_clear, Cond.selects RX3 yX3_clear yX3_clear, Cond.initialized RX3, Cond.code yX3_clear cX3_clear 1 none, Cond.fieldLink RX3 27 "ColumnDesk$Shelf" "kept" "I", Cond.methodLink RX5 236 yX2_forget, Cond.instanceMethod yX2_forget, Cond.selects RX2 yX2_forget yX2_forget, Cond.initialized RX2, Cond.code yX2_forget cX2_forget 1 none, Cond.fieldLink RX2 22 "ColumnDesk$Page" "begun" "Z", Cond.fieldLink RX2 26 "ColumnDesk$Page" "first" "I", Cond.fieldLink RX2 18 "ColumnDesk$Page" "best" "I", Cond.fieldLink RX2 36 "ColumnDesk$Page" "leastCost" "J", Cond.methodLink RX5 241 yX0_clear, Cond.instanceMethod yX0_clear, Cond.selects RX0 yX0_clear yX0_clear, Cond.initialized RX0, Cond.code yX0_clear cX0_clear 1 none]
def wsX5_loseAll_r2 : List Cond := [Cond.fieldLink RX0 15 "ColumnDesk$Items" "size" "I", Cond.methodLink RX5 39 yX0_append, Cond.instanceMethod yX0_append, Cond.selects RX0 yX0_append yX0_append, Cond.code yX0_append cX0_append 1 (some .int), Cond.fieldLink RX0 9 "ColumnDesk$Items" "cells" "[I", Cond.methodLink RX0 19 yX0_makeRoom, Cond.instanceMethod yX0_makeRoom, Cond.selects RX0 yX0_makeRoom yX0_makeRoom, Cond.code yX0_makeRoom cX0_makeRoom 3 none, Cond.methodLink RX0 36 Lib.Math.max.name, Cond.static Lib.Math.max.name, Cond.initialized "java/lang/Math", Cond.code Lib.Math.max.name Lib.Math.max.code 2 (some .int), Cond.methodLink RX0 42 Lib.Math.min.name, Cond.static Lib.Math.min.name, Cond.code Lib.Math.min.name Lib.Math.min.code 2 (some .int), Cond.methodLink RX0 45 yJ7_copyOf_59c91, Cond.static yJ7_copyOf_59c91, Cond.initialized RJ7, Cond.code yJ7_copyOf_59c91 cJ7_copyOf_59c91 3 (some (.array .int)), Cond.methodLink RJ7 316 ⟨"[I", "clone", "()Ljava/lang/Object;"⟩, Cond.sameMethod "[I" "java/lang/Object" "clone" "()Ljava/lang/Object;", Cond.native ⟨"java/lang/Object", "clone", "()Ljava/lang/Object;"⟩]
def wsX5_loseAll_r3 : List Cond := [Cond.instanceMethod ⟨"java/lang/Object", "clone", "()Ljava/lang/Object;"⟩, Cond.selects "[I" ⟨"[I", "clone", "()Ljava/lang/Object;"⟩ ⟨"java/lang/Object", "clone", "()Ljava/lang/Object;"⟩, Cond.classLink RJ7 317 "[I", Cond.arrayClass .int, Cond.methodLink RJ7 304 Lib.Math.min.name, Cond.methodLink RJ7 150 arraycopyName, Cond.native arraycopyName, Cond.static arraycopyName, Cond.initialized "java/lang/System"]
def wsX5_loseAll : List Cond := .code yX5_loseAll cX5_loseAll 1 none :: ((wsX5_loseAll_r1 ++ (wsX5_loseAll_r2 ++ wsX5_loseAll_r3)) ++ wsX50 ++ wsX30 ++ wsX20 ++ wsX00)
def wsX5_dropUsed : List Cond := .code yX5_dropUsed cX5_dropUsed 2 none :: ([.fieldLink RX5 21 "ColumnDesk" "current" "LColumnDesk$Page;", .fieldLink RX5 43 "ColumnDesk" "next" "I", .fieldLink RX5 14 "ColumnDesk" "column" "LColumnDesk$Items;", .methodLink RX5 242 yX0_dropFirst, .instanceMethod yX0_dropFirst, .selects RX0 yX0_dropFirst yX0_dropFirst, .initialized RX0, .code yX0_dropFirst cX0_dropFirst 2 none, .fieldLink RX0 15 "ColumnDesk$Items" "size" "I", .fieldLink RX0 9 "ColumnDesk$Items" "cells" "[I", .methodLink RX0 30 arraycopyName, .native arraycopyName, .static arraycopyName, .initialized "java/lang/System"] ++ wsX50 ++ wsX20 ++ wsX00)
def wsX5_build_r1 : List Cond := [Cond.classLink RX5 101 "java/lang/UnsupportedOperationException", Cond.initialized "java/lang/UnsupportedOperationException", Cond.fieldLink RX5 14 "ColumnDesk" "column" "LColumnDesk$Items;", Cond.methodLink RX5 89 yX0_size, Cond.instanceMethod yX0_size, Cond.selects RX0 yX0_size yX0_size, Cond.initialized RX0, Cond.code yX0_size cX0_size 1 (some .int), Cond.fieldLink RX0 15 "ColumnDesk$Items" "size" "I", Cond.methodLink RX5 92 yX5_fillPage, Cond.instanceMethod yX5_fillPage, Cond.selects RX5 yX5_fillPage yX5_fillPage, Cond.initialized RX5, Cond.code yX5_fillPage cX5_fillPage 4 (some .boolean), Cond.fieldLink RX5 43 "ColumnDesk" "next" "I", Cond.fieldLink RX5 21 "ColumnDesk" "current" "LColumnDesk$Page;", Cond.methodLink RX5 145 yX5_toCome, Cond.instanceMethod yX5_toCome, Cond.selects RX5 yX5_toCome yX5_toCome, Cond.code yX5_toCome cX5_toCome 1 (some .int), Cond.methodLink RX5 138 yX0_at, Cond.instanceMethod yX0_at, Cond.selects RX0 yX0_at yX0_at, Cond.code yX0_at cX0_at 4 (some .int)]
def wsX5_build_r2 : List Cond := [Cond.fieldLink RX0 9 "ColumnDesk$Items" "cells" "[I", Cond.methodLink RX5 188 yX5_isSolid, Cond.static yX5_isSolid, Cond.code yX5_isSolid cX5_isSolid 1 (some .boolean), Cond.methodLink RX5 192 yX5_beginPage, Cond.instanceMethod yX5_beginPage, Cond.selects RX5 yX5_beginPage yX5_beginPage, Cond.code yX5_beginPage cX5_beginPage 3 none, Cond.fieldLink RX5 61 "ColumnDesk" "topWidth" "I", Cond.methodLink RX5 205 Lib.Math.max.name, Cond.static Lib.Math.max.name, Cond.initialized "java/lang/Math", Cond.code Lib.Math.max.name Lib.Math.max.code 2 (some .int), Cond.fieldLink RX5 64 "ColumnDesk" "topStretch" "I", Cond.fieldLink RX5 67 "ColumnDesk" "topOrder" "I", Cond.fieldLink RX5 70 "ColumnDesk" "topShrink" "I", Cond.fieldLink RX5 51 "ColumnDesk" "toldHeight" "I", Cond.fieldLink RX5 54 "ColumnDesk" "toldDepth" "I", Cond.methodLink RX5 81 yX0_makeGlue, Cond.instanceMethod yX0_makeGlue, Cond.selects RX0 yX0_makeGlue yX0_makeGlue, Cond.code yX0_makeGlue cX0_makeGlue 6 none, Cond.methodLink RX0 27 yX0_makePlain, Cond.instanceMethod yX0_makePlain]
def wsX5_build_r3 : List Cond := [Cond.selects RX0 yX0_makePlain yX0_makePlain, Cond.code yX0_makePlain cX0_makePlain 5 none, Cond.methodLink RX0 23 yX0_put, Cond.instanceMethod yX0_put, Cond.selects RX0 yX0_put yX0_put, Cond.code yX0_put cX0_put 5 none, Cond.methodLink RX5 210 yX2_begin, Cond.instanceMethod yX2_begin, Cond.selects RX2 yX2_begin yX2_begin, Cond.initialized RX2, Cond.code yX2_begin cX2_begin 4 none, Cond.fieldLink RX2 22 "ColumnDesk$Page" "begun" "Z", Cond.fieldLink RX2 26 "ColumnDesk$Page" "first" "I", Cond.fieldLink RX2 29 "ColumnDesk$Page" "goal" "I", Cond.fieldLink RX2 12 "ColumnDesk$Page" "sums" "LColumnDesk$Sums;", Cond.methodLink RX2 32 yX4_clear, Cond.instanceMethod yX4_clear, Cond.selects RX4 yX4_clear yX4_clear, Cond.initialized RX4, Cond.code yX4_clear cX4_clear 2 none, Cond.fieldLink RX4 9 "ColumnDesk$Sums" "stretch" "[J", Cond.fieldLink RX4 21 "ColumnDesk$Sums" "shrink" "J", Cond.fieldLink RX4 25 "ColumnDesk$Sums" "all" "J", Cond.fieldLink RX4 28 "ColumnDesk$Sums" "depth" "J"]
def wsX5_build_r4 : List Cond := [Cond.fieldLink RX4 31 "ColumnDesk$Sums" "width" "J", Cond.fieldLink RX4 34 "ColumnDesk$Sums" "limit" "I", Cond.methodLink RX4 15 yJ7_fill_d0a16, Cond.static yJ7_fill_d0a16, Cond.initialized RJ7, Cond.code yJ7_fill_d0a16 cJ7_fill_d0a16 5 none, Cond.methodLink RX5 201 yX4_take, Cond.instanceMethod yX4_take, Cond.selects RX4 yX4_take yX4_take, Cond.code yX4_take cX4_take 3 none, Cond.methodLink RX4 38 yX0_at, Cond.methodLink RX4 44 yX4_takeSolid, Cond.instanceMethod yX4_takeSolid, Cond.selects RX4 yX4_takeSolid yX4_takeSolid, Cond.code yX4_takeSolid cX4_takeSolid 5 none, Cond.methodLink RX4 51 Lib.MathLoose.min_long.x, Cond.static Lib.MathLoose.min_long.x, Cond.code Lib.MathLoose.min_long.x Lib.MathLoose.min_long.code 4 (some .long), Cond.methodLink RX4 57 Lib.MathLoose.max_long.x, Cond.static Lib.MathLoose.max_long.x, Cond.code Lib.MathLoose.max_long.x Lib.MathLoose.max_long.code 4 (some .long), Cond.methodLink RX4 48 yX4_takeGlue, Cond.instanceMethod yX4_takeGlue, Cond.selects RX4 yX4_takeGlue yX4_takeGlue]
def wsX5_build_r5 : List Cond := [Cond.code yX4_takeGlue cX4_takeGlue 4 none, Cond.methodLink RX5 195 yX5_isBreak, Cond.instanceMethod yX5_isBreak, Cond.selects RX5 yX5_isBreak yX5_isBreak, Cond.code yX5_isBreak cX5_isBreak 2 (some .boolean), Cond.methodLink RX5 198 yX5_endsAtBreak, Cond.instanceMethod yX5_endsAtBreak, Cond.selects RX5 yX5_endsAtBreak yX5_endsAtBreak, Cond.code yX5_endsAtBreak cX5_endsAtBreak 3 (some .boolean), Cond.methodLink RX5 148 yX5_onPage, Cond.instanceMethod yX5_onPage, Cond.selects RX5 yX5_onPage yX5_onPage, Cond.code yX5_onPage cX5_onPage 1 (some .int), Cond.methodLink RX5 213 yX2_weigh, Cond.instanceMethod yX2_weigh, Cond.selects RX2 yX2_weigh yX2_weigh, Cond.code yX2_weigh cX2_weigh 8 (some .boolean), Cond.constantLong RX2 44 (-1), Cond.fieldLink RX2 36 "ColumnDesk$Page" "leastCost" "J", Cond.fieldLink RX2 18 "ColumnDesk$Page" "best" "I", Cond.methodLink RX2 40 yX2_badnessNow, Cond.instanceMethod yX2_badnessNow, Cond.selects RX2 yX2_badnessNow yX2_badnessNow, Cond.code yX2_badnessNow cX2_badnessNow 3 (some .long)]
def wsX5_build_r6 : List Cond := [Cond.methodLink RX2 54 yX4_total, Cond.instanceMethod yX4_total, Cond.selects RX4 yX4_total yX4_total, Cond.code yX4_total cX4_total 1 (some .long), Cond.static yX5_badness, Cond.code yX5_badness cX5_badness 6 (some .long), Cond.constantLong RX5 249 (10000), Cond.constantLong RX5 251 (297), Cond.constantLong RX5 253 (1290), Cond.constantLong RX5 255 (131072), Cond.constantLong RX5 257 (262144), Cond.methodLink RX2 64 yX4_highestOrder, Cond.instanceMethod yX4_highestOrder, Cond.selects RX4 yX4_highestOrder yX4_highestOrder, Cond.code yX4_highestOrder cX4_highestOrder 2 (some .int), Cond.methodLink RX2 68 yX4_stretchOf, Cond.instanceMethod yX4_stretchOf, Cond.selects RX4 yX4_stretchOf yX4_stretchOf, Cond.code yX4_stretchOf cX4_stretchOf 2 (some .long), Cond.methodLink RX2 46 yX2_costOf, Cond.static yX2_costOf, Cond.code yX2_costOf cX2_costOf 3 (some .long), Cond.constantLong RX2 72 (10000), Cond.constantLong RX2 74 (100000)]
def wsX5_build_r7 : List Cond := [Cond.methodLink RX2 50 yX2_hasBest, Cond.instanceMethod yX2_hasBest, Cond.selects RX2 yX2_hasBest yX2_hasBest, Cond.code yX2_hasBest cX2_hasBest 1 (some .boolean), Cond.methodLink RX5 95 yX5_endPage, Cond.instanceMethod yX5_endPage, Cond.selects RX5 yX5_endPage yX5_endPage, Cond.code yX5_endPage cX5_endPage 4 (some .boolean), Cond.fieldLink RX5 35 "ColumnDesk" "madeSums" "LColumnDesk$Sums;", Cond.fieldLink RX5 28 "ColumnDesk" "shelf" "LColumnDesk$Shelf;", Cond.methodLink RX5 151 yX2_hasBest, Cond.methodLink RX5 223 yX4_clear, Cond.methodLink RX5 226 yX4_areSizes, Cond.instanceMethod yX4_areSizes, Cond.selects RX4 yX4_areSizes yX4_areSizes, Cond.code yX4_areSizes cX4_areSizes 2 (some .boolean), Cond.static yX5_isSize, Cond.code yX5_isSize cX5_isSize 2 (some .boolean), Cond.constantLong RX5 245 (-1073741823), Cond.constantLong RX5 247 (1073741823), Cond.methodLink RX4 64 yX4_total, Cond.methodLink RX5 232 yX3_put, Cond.instanceMethod yX3_put, Cond.selects RX3 yX3_put yX3_put]
def wsX5_build_r8 : List Cond := [Cond.initialized RX3, Cond.code yX3_put cX3_put 7 none, Cond.fieldLink RX3 17 "ColumnDesk$Shelf" "latest" "I", Cond.fieldLink RX3 27 "ColumnDesk$Shelf" "kept" "I", Cond.methodLink RX3 30 Lib.Math.min.name, Cond.static Lib.Math.min.name, Cond.code Lib.Math.min.name Lib.Math.min.code 2 (some .int), Cond.fieldLink RX3 33 "ColumnDesk$Shelf" "everMade" "I", Cond.fieldLink RX3 11 "ColumnDesk$Shelf" "pages" "[LColumnDesk$MadePage;", Cond.classLink RX3 9 RX1, Cond.instantiable RX1 4, Cond.initialized RX1, Cond.methodLink RX3 21 yJ9_floorMod_7cf53, Cond.static yJ9_floorMod_7cf53, Cond.initialized RJ9, Cond.code yJ9_floorMod_7cf53 cJ9_floorMod_7cf53 3 (some .int), Cond.instanceMethod yX1_init, Cond.code yX1_init cX1_init 1 none, Cond.methodLink RX1 3 objectInit, Cond.instanceMethod objectInit, Cond.code objectInit ⟨#[0xb1]⟩ 1 none, Cond.classLink RX1 9 RX0, Cond.instantiable RX0 2, Cond.fieldLink RX1 14 "ColumnDesk$MadePage" "items" "LColumnDesk$Items;"]
def wsX5_build_r9 : List Cond := [Cond.methodLink RX1 11 yX0_init, Cond.instanceMethod yX0_init, Cond.code yX0_init cX0_init 2 none, Cond.methodLink RX0 3 objectInit, Cond.arrayClass .int, Cond.methodLink RX3 37 yX1_make, Cond.instanceMethod yX1_make, Cond.selects RX1 yX1_make yX1_make, Cond.code yX1_make cX1_make 6 none, Cond.fieldLink RX1 24 "ColumnDesk$MadePage" "height" "I", Cond.fieldLink RX1 34 "ColumnDesk$MadePage" "depth" "I", Cond.fieldLink RX1 39 "ColumnDesk$MadePage" "width" "I", Cond.methodLink RX1 20 yX0_copyFrom, Cond.instanceMethod yX0_copyFrom, Cond.selects RX0 yX0_copyFrom yX0_copyFrom, Cond.code yX0_copyFrom cX0_copyFrom 5 none, Cond.methodLink RX0 30 arraycopyName, Cond.native arraycopyName, Cond.static arraycopyName, Cond.initialized "java/lang/System", Cond.methodLink RX0 19 yX0_makeRoom, Cond.instanceMethod yX0_makeRoom, Cond.selects RX0 yX0_makeRoom yX0_makeRoom, Cond.code yX0_makeRoom cX0_makeRoom 3 none]
def wsX5_build_r10 : List Cond := [Cond.methodLink RX0 36 Lib.Math.max.name, Cond.methodLink RX0 42 Lib.Math.min.name, Cond.methodLink RX0 45 yJ7_copyOf_59c91, Cond.static yJ7_copyOf_59c91, Cond.code yJ7_copyOf_59c91 cJ7_copyOf_59c91 3 (some (.array .int)), Cond.methodLink RJ7 316 ⟨"[I", "clone", "()Ljava/lang/Object;"⟩, Cond.sameMethod "[I" "java/lang/Object" "clone" "()Ljava/lang/Object;", Cond.native ⟨"java/lang/Object", "clone", "()Ljava/lang/Object;"⟩, Cond.instanceMethod ⟨"java/lang/Object", "clone", "()Ljava/lang/Object;"⟩, Cond.selects "[I" ⟨"[I", "clone", "()Ljava/lang/Object;"⟩ ⟨"java/lang/Object", "clone", "()Ljava/lang/Object;"⟩, Cond.classLink RJ7 317 "[I", Cond.methodLink RJ7 304 Lib.Math.min.name, Cond.methodLink RJ7 150 arraycopyName, Cond.methodLink RX1 41 yX4_total, Cond.methodLink RX1 45 yX1_setGlue, Cond.instanceMethod yX1_setGlue, Cond.selects RX1 yX1_setGlue yX1_setGlue, Cond.code yX1_setGlue cX1_setGlue 5 none, Cond.methodLink RX1 64 Lib.MathLoose.max_long.x, Cond.methodLink RX1 49 yX4_highestOrder, Cond.methodLink RX1 53 yX4_stretchOf, Cond.methodLink RX1 57 yX1_spread, Cond.instanceMethod yX1_spread, Cond.selects RX1 yX1_spread yX1_spread]
def wsX5_build_r11 : List Cond := [Cond.code yX1_spread cX1_spread 13 none, Cond.methodLink RX1 70 yX0_size, Cond.methodLink RX1 73 yX0_at, Cond.methodLink RX1 77 yX1_shareOf, Cond.instanceMethod yX1_shareOf, Cond.selects RX1 yX1_shareOf yX1_shareOf, Cond.code yX1_shareOf cX1_shareOf 3 (some .int), Cond.static yX5_near, Cond.code yX5_near cX5_near 6 (some .long), Cond.constantLong RX5 259 (2), Cond.methodLink RX5 261 Lib.MathLoose.abs_long.x, Cond.static Lib.MathLoose.abs_long.x, Cond.code Lib.MathLoose.abs_long.x Lib.MathLoose.abs_long.code 2 (some .long), Cond.methodLink RX1 83 yX1_within, Cond.static yX1_within, Cond.code yX1_within cX1_within 2 (some .int), Cond.constantLong RX1 91 (-2147483647), Cond.constantLong RX1 93 (2147483647), Cond.methodLink RX1 95 Lib.MathLoose.min_long.x, Cond.methodLink RX1 87 yX0_put, Cond.methodLink RX5 236 yX2_forget, Cond.instanceMethod yX2_forget, Cond.selects RX2 yX2_forget yX2_forget, Cond.code yX2_forget cX2_forget 1 none]
def wsX5_build_r12 : List Cond := [Cond.methodLink RX5 98 yX5_loseAll, Cond.instanceMethod yX5_loseAll, Cond.selects RX5 yX5_loseAll yX5_loseAll, Cond.code yX5_loseAll cX5_loseAll 1 none, Cond.methodLink RX5 239 yX3_clear, Cond.instanceMethod yX3_clear, Cond.selects RX3 yX3_clear yX3_clear, Cond.code yX3_clear cX3_clear 1 none, Cond.methodLink RX5 241 yX0_clear, Cond.instanceMethod yX0_clear, Cond.selects RX0 yX0_clear yX0_clear, Cond.code yX0_clear cX0_clear 1 none, Cond.methodLink RX5 39 yX0_append, Cond.instanceMethod yX0_append, Cond.selects RX0 yX0_append yX0_append, Cond.code yX0_append cX0_append 1 (some .int), Cond.methodLink RX5 108 yX5_dropUsed, Cond.instanceMethod yX5_dropUsed, Cond.selects RX5 yX5_dropUsed yX5_dropUsed, Cond.code yX5_dropUsed cX5_dropUsed 2 none, Cond.methodLink RX5 242 yX0_dropFirst, Cond.instanceMethod yX0_dropFirst, Cond.selects RX0 yX0_dropFirst yX0_dropFirst, Cond.code yX0_dropFirst cX0_dropFirst 2 none]
def wsX5_build : List Cond := .code yX5_build cX5_build 4 (some .int) :: ((wsX5_build_r1 ++ (wsX5_build_r2 ++ (wsX5_build_r3 ++ (wsX5_build_r4 ++ (wsX5_build_r5 ++ (wsX5_build_r6 ++ (wsX5_build_r7 ++ (wsX5_build_r8 ++ (wsX5_build_r9 ++ (wsX5_build_r10 ++ (wsX5_build_r11 ++ wsX5_build_r12))))))))))) ++ wsX50 ++ wsX00 ++ wsX20 ++ wsX40 ++ wsX30 ++ wsX10 ++ (vx_atS RX5 105 "java/lang/UnsupportedOperationException" ["java/lang/RuntimeException", "java/lang/Exception"]).filter goodWord)
def wsX5_about : List Cond := .code yX5_about cX5_about 4 (some .int) :: ([.classLink RX5 115 "java/lang/IndexOutOfBoundsException", .initialized "java/lang/IndexOutOfBoundsException", .fieldLink RX5 28 "ColumnDesk" "shelf" "LColumnDesk$Shelf;", .methodLink RX5 111 yX3_madePage, .instanceMethod yX3_madePage, .selects RX3 yX3_madePage yX3_madePage, .initialized RX3, .code yX3_madePage cX3_madePage 2 (some (.object "ColumnDesk$MadePage")), .fieldLink RX3 27 "ColumnDesk$Shelf" "kept" "I", .fieldLink RX3 11 "ColumnDesk$Shelf" "pages" "[LColumnDesk$MadePage;", .fieldLink RX3 17 "ColumnDesk$Shelf" "latest" "I", .methodLink RX3 21 yJ9_floorMod_7cf53, .static yJ9_floorMod_7cf53, .initialized RJ9, .code yJ9_floorMod_7cf53 cJ9_floorMod_7cf53 3 (some .int), .methodLink RX5 89 yX0_size, .instanceMethod yX0_size, .selects RX0 yX0_size yX0_size, .initialized RX0, .code yX0_size cX0_size 1 (some .int), .fieldLink RX0 15 "ColumnDesk$Items" "size" "I"] ++ wsX50 ++ wsX10 ++ wsX30 ++ wsX00 ++ (vx_atS RX5 119 "java/lang/IndexOutOfBoundsException" ["java/lang/RuntimeException", "java/lang/Exception"]).filter goodWord)
def wsX5_item_r1 : List Cond := [Cond.classLink RX5 115 "java/lang/IndexOutOfBoundsException", Cond.initialized "java/lang/IndexOutOfBoundsException", Cond.fieldLink RX5 28 "ColumnDesk" "shelf" "LColumnDesk$Shelf;", Cond.methodLink RX5 111 yX3_madePage, Cond.instanceMethod yX3_madePage, Cond.selects RX3 yX3_madePage yX3_madePage, Cond.initialized RX3, Cond.code yX3_madePage cX3_madePage 2 (some (.object "ColumnDesk$MadePage")), Cond.fieldLink RX3 27 "ColumnDesk$Shelf" "kept" "I", Cond.fieldLink RX3 11 "ColumnDesk$Shelf" "pages" "[LColumnDesk$MadePage;", Cond.fieldLink RX3 17 "ColumnDesk$Shelf" "latest" "I", Cond.methodLink RX3 21 yJ9_floorMod_7cf53, Cond.static yJ9_floorMod_7cf53, Cond.initialized RJ9, Cond.code yJ9_floorMod_7cf53 cJ9_floorMod_7cf53 3 (some .int), Cond.methodLink RX5 89 yX0_size, Cond.instanceMethod yX0_size, Cond.selects RX0 yX0_size yX0_size, Cond.initialized RX0, Cond.code yX0_size cX0_size 1 (some .int), Cond.fieldLink RX0 15 "ColumnDesk$Items" "size" "I", Cond.methodLink RX5 138 yX0_at, Cond.instanceMethod yX0_at, Cond.selects RX0 yX0_at yX0_at]
def wsX5_item_r2 : List Cond := [Cond.code yX0_at cX0_at 4 (some .int), Cond.fieldLink RX0 9 "ColumnDesk$Items" "cells" "[I"]
def wsX5_item : List Cond := .code yX5_item cX5_item 5 (some .int) :: ((wsX5_item_r1 ++ wsX5_item_r2) ++ wsX50 ++ wsX10 ++ wsX30 ++ wsX00 ++ (vx_atS RX5 119 "java/lang/IndexOutOfBoundsException" ["java/lang/RuntimeException", "java/lang/Exception"]).filter goodWord)
def wsX5_count_r1 : List Cond := [Cond.fieldLink RX5 28 "ColumnDesk" "shelf" "LColumnDesk$Shelf;", Cond.fieldLink RX5 21 "ColumnDesk" "current" "LColumnDesk$Page;", Cond.methodLink RX5 145 yX5_toCome, Cond.instanceMethod yX5_toCome, Cond.selects RX5 yX5_toCome yX5_toCome, Cond.initialized RX5, Cond.code yX5_toCome cX5_toCome 1 (some .int), Cond.fieldLink RX5 14 "ColumnDesk" "column" "LColumnDesk$Items;", Cond.fieldLink RX5 43 "ColumnDesk" "next" "I", Cond.methodLink RX5 89 yX0_size, Cond.instanceMethod yX0_size, Cond.selects RX0 yX0_size yX0_size, Cond.initialized RX0, Cond.code yX0_size cX0_size 1 (some .int), Cond.fieldLink RX0 15 "ColumnDesk$Items" "size" "I", Cond.methodLink RX5 148 yX5_onPage, Cond.instanceMethod yX5_onPage, Cond.selects RX5 yX5_onPage yX5_onPage, Cond.code yX5_onPage cX5_onPage 1 (some .int), Cond.methodLink RX5 151 yX2_hasBest, Cond.instanceMethod yX2_hasBest, Cond.selects RX2 yX2_hasBest yX2_hasBest, Cond.initialized RX2, Cond.code yX2_hasBest cX2_hasBest 1 (some .boolean)]
def wsX5_count_r2 : List Cond := [Cond.fieldLink RX2 18 "ColumnDesk$Page" "best" "I"]
def wsX5_count : List Cond := .code yX5_count cX5_count 2 (some .int) :: ((wsX5_count_r1 ++ wsX5_count_r2) ++ wsX50 ++ wsX30 ++ wsX00 ++ wsX20)
def wsX5_sum : List Cond := .code yX5_sum cX5_sum 2 (some .long) :: ([.fieldLink RX5 21 "ColumnDesk" "current" "LColumnDesk$Page;", .methodLink RX5 161 yX4_total, .instanceMethod yX4_total, .selects RX4 yX4_total yX4_total, .initialized RX4, .code yX4_total cX4_total 1 (some .long), .fieldLink RX4 25 "ColumnDesk$Sums" "all" "J", .fieldLink RX4 28 "ColumnDesk$Sums" "depth" "J", .methodLink RX5 171 yX4_stretchOf, .instanceMethod yX4_stretchOf, .selects RX4 yX4_stretchOf yX4_stretchOf, .code yX4_stretchOf cX4_stretchOf 2 (some .long), .fieldLink RX4 9 "ColumnDesk$Sums" "stretch" "[J", .methodLink RX5 151 yX2_hasBest, .instanceMethod yX2_hasBest, .selects RX2 yX2_hasBest yX2_hasBest, .initialized RX2, .code yX2_hasBest cX2_hasBest 1 (some .boolean), .fieldLink RX2 18 "ColumnDesk$Page" "best" "I"] ++ wsX50 ++ wsX20 ++ wsX40)
def wsX6_init : List Cond := .code yX6_init cX6_init 1 none :: ([.methodLink RX6 1 objectInit, .instanceMethod objectInit, .code objectInit ⟨#[0xb1]⟩ 1 none, .arrayClass .int, .fieldLink RX6 7 "ColumnDeskModel" "kind" "[I", .fieldLink RX6 13 "ColumnDeskModel" "wide" "[I", .fieldLink RX6 16 "ColumnDeskModel" "high" "[I", .fieldLink RX6 19 "ColumnDeskModel" "deep" "[I", .fieldLink RX6 22 "ColumnDeskModel" "shift" "[I", .fieldLink RX6 25 "ColumnDeskModel" "order" "[I", .fieldLink RX6 28 "ColumnDeskModel" "shrink" "[I", .arrayClass .long, .fieldLink RX6 31 "ColumnDeskModel" "more" "[J", .fieldLink RX6 35 "ColumnDeskModel" "items" "[I", .fieldLink RX6 38 "ColumnDeskModel" "heights" "[I", .fieldLink RX6 41 "ColumnDeskModel" "depths" "[I", .fieldLink RX6 44 "ColumnDeskModel" "widths" "[I", .fieldLink RX6 47 "ColumnDeskModel" "best" "I", .fieldLink RX6 51 "ColumnDeskModel" "stretches" "[J"] ++ wsX60)
def wsX6_thrown : List Cond := .code yX6_thrown cX6_thrown 1 (some .int) :: ([.fieldLink RX6 54 "ColumnDeskModel" "thrown" "I"] ++ wsX60)
def wsX6_fails : List Cond := .code yX6_fails cX6_fails 1 (some .int) :: ([.fieldLink RX6 54 "ColumnDeskModel" "thrown" "I"] ++ wsX60)
def wsX6_isSize : List Cond := .code yX6_isSize cX6_isSize 1 (some .boolean) :: ([.constant RX6 57 (-1073741823), .constant RX6 58 (1073741823)])
def wsX6_isSizeLong : List Cond := .code yX6_isSizeLong cX6_isSizeLong 2 (some .boolean) :: ([.constantLong RX6 59 (-1073741823), .constantLong RX6 61 (1073741823)])
def wsX6_page : List Cond := .code yX6_page cX6_page 3 (some .boolean) :: ([.fieldLink RX6 54 "ColumnDeskModel" "thrown" "I", .fieldLink RX6 67 "ColumnDeskModel" "height" "I", .fieldLink RX6 70 "ColumnDeskModel" "limit" "I", .methodLink RX6 63 yX6_isSize, .static yX6_isSize, .initialized RX6, .code yX6_isSize cX6_isSize 1 (some .boolean), .constant RX6 57 (-1073741823), .constant RX6 58 (1073741823)] ++ wsX60)
def wsX6_isGlue : List Cond := .code yX6_isGlue cX6_isGlue 4 (some .boolean) :: ([.methodLink RX6 63 yX6_isSize, .static yX6_isSize, .initialized RX6, .code yX6_isSize cX6_isSize 1 (some .boolean), .constant RX6 57 (-1073741823), .constant RX6 58 (1073741823)])
def wsX6_top : List Cond := .code yX6_top cX6_top 5 (some .boolean) :: ([.fieldLink RX6 54 "ColumnDeskModel" "thrown" "I", .fieldLink RX6 77 "ColumnDeskModel" "topWidth" "I", .fieldLink RX6 80 "ColumnDeskModel" "topStretch" "I", .fieldLink RX6 83 "ColumnDeskModel" "topOrder" "I", .fieldLink RX6 86 "ColumnDeskModel" "topShrink" "I", .methodLink RX6 73 yX6_isGlue, .static yX6_isGlue, .initialized RX6, .code yX6_isGlue cX6_isGlue 4 (some .boolean), .methodLink RX6 63 yX6_isSize, .static yX6_isSize, .code yX6_isSize cX6_isSize 1 (some .boolean), .constant RX6 57 (-1073741823), .constant RX6 58 (1073741823)] ++ wsX60)
def wsX6_all : List Cond := .code yX6_all cX6_all 3 (some .int) :: ([.fieldLink RX6 89 "ColumnDeskModel" "coming" "I", .fieldLink RX6 92 "ColumnDeskModel" "there" "I", .fieldLink RX6 95 "ColumnDeskModel" "kept" "I", .fieldLink RX6 35 "ColumnDeskModel" "items" "[I"] ++ wsX60)
def wsX6_write : List Cond := .code yX6_write cX6_write 9 none :: ([.fieldLink RX6 7 "ColumnDeskModel" "kind" "[I", .fieldLink RX6 13 "ColumnDeskModel" "wide" "[I", .fieldLink RX6 16 "ColumnDeskModel" "high" "[I", .fieldLink RX6 19 "ColumnDeskModel" "deep" "[I", .fieldLink RX6 22 "ColumnDeskModel" "shift" "[I", .fieldLink RX6 25 "ColumnDeskModel" "order" "[I", .fieldLink RX6 28 "ColumnDeskModel" "shrink" "[I", .fieldLink RX6 31 "ColumnDeskModel" "more" "[J"] ++ wsX60)
def wsX6_add : List Cond := .code yX6_add cX6_add 9 (some .boolean) :: ([.fieldLink RX6 54 "ColumnDeskModel" "thrown" "I", .fieldLink RX6 89 "ColumnDeskModel" "coming" "I", .methodLink RX6 98 yX6_all, .instanceMethod yX6_all, .selects RX6 yX6_all yX6_all, .initialized RX6, .code yX6_all cX6_all 3 (some .int), .fieldLink RX6 92 "ColumnDeskModel" "there" "I", .fieldLink RX6 95 "ColumnDeskModel" "kept" "I", .fieldLink RX6 35 "ColumnDeskModel" "items" "[I", .methodLink RX6 102 yX6_write, .instanceMethod yX6_write, .selects RX6 yX6_write yX6_write, .code yX6_write cX6_write 9 none, .fieldLink RX6 7 "ColumnDeskModel" "kind" "[I", .fieldLink RX6 13 "ColumnDeskModel" "wide" "[I", .fieldLink RX6 16 "ColumnDeskModel" "high" "[I", .fieldLink RX6 19 "ColumnDeskModel" "deep" "[I", .fieldLink RX6 22 "ColumnDeskModel" "shift" "[I", .fieldLink RX6 25 "ColumnDeskModel" "order" "[I", .fieldLink RX6 28 "ColumnDeskModel" "shrink" "[I", .fieldLink RX6 31 "ColumnDeskModel" "more" "[J"] ++ wsX60)
def wsX6_box_r1 : List Cond := [Cond.methodLink RX6 63 yX6_isSize, Cond.static yX6_isSize, Cond.initialized RX6, Cond.code yX6_isSize cX6_isSize 1 (some .boolean), Cond.constant RX6 57 (-1073741823), Cond.constant RX6 58 (1073741823), Cond.methodLink RX6 106 yX6_add, Cond.instanceMethod yX6_add, Cond.selects RX6 yX6_add yX6_add, Cond.code yX6_add cX6_add 9 (some .boolean), Cond.fieldLink RX6 54 "ColumnDeskModel" "thrown" "I", Cond.fieldLink RX6 89 "ColumnDeskModel" "coming" "I", Cond.methodLink RX6 98 yX6_all, Cond.instanceMethod yX6_all, Cond.selects RX6 yX6_all yX6_all, Cond.code yX6_all cX6_all 3 (some .int), Cond.fieldLink RX6 92 "ColumnDeskModel" "there" "I", Cond.fieldLink RX6 95 "ColumnDeskModel" "kept" "I", Cond.fieldLink RX6 35 "ColumnDeskModel" "items" "[I", Cond.methodLink RX6 102 yX6_write, Cond.instanceMethod yX6_write, Cond.selects RX6 yX6_write yX6_write, Cond.code yX6_write cX6_write 9 none, Cond.fieldLink RX6 7 "ColumnDeskModel" "kind" "[I"]
def wsX6_box_r2 : List Cond := [Cond.fieldLink RX6 13 "ColumnDeskModel" "wide" "[I", Cond.fieldLink RX6 16 "ColumnDeskModel" "high" "[I", Cond.fieldLink RX6 19 "ColumnDeskModel" "deep" "[I", Cond.fieldLink RX6 22 "ColumnDeskModel" "shift" "[I", Cond.fieldLink RX6 25 "ColumnDeskModel" "order" "[I", Cond.fieldLink RX6 28 "ColumnDeskModel" "shrink" "[I", Cond.fieldLink RX6 31 "ColumnDeskModel" "more" "[J"]
def wsX6_box : List Cond := .code yX6_box cX6_box 5 (some .boolean) :: ((wsX6_box_r1 ++ wsX6_box_r2) ++ wsX60)
def wsX6_rule_r1 : List Cond := [Cond.methodLink RX6 63 yX6_isSize, Cond.static yX6_isSize, Cond.initialized RX6, Cond.code yX6_isSize cX6_isSize 1 (some .boolean), Cond.constant RX6 57 (-1073741823), Cond.constant RX6 58 (1073741823), Cond.methodLink RX6 106 yX6_add, Cond.instanceMethod yX6_add, Cond.selects RX6 yX6_add yX6_add, Cond.code yX6_add cX6_add 9 (some .boolean), Cond.fieldLink RX6 54 "ColumnDeskModel" "thrown" "I", Cond.fieldLink RX6 89 "ColumnDeskModel" "coming" "I", Cond.methodLink RX6 98 yX6_all, Cond.instanceMethod yX6_all, Cond.selects RX6 yX6_all yX6_all, Cond.code yX6_all cX6_all 3 (some .int), Cond.fieldLink RX6 92 "ColumnDeskModel" "there" "I", Cond.fieldLink RX6 95 "ColumnDeskModel" "kept" "I", Cond.fieldLink RX6 35 "ColumnDeskModel" "items" "[I", Cond.methodLink RX6 102 yX6_write, Cond.instanceMethod yX6_write, Cond.selects RX6 yX6_write yX6_write, Cond.code yX6_write cX6_write 9 none, Cond.fieldLink RX6 7 "ColumnDeskModel" "kind" "[I"]
def wsX6_rule_r2 : List Cond := [Cond.fieldLink RX6 13 "ColumnDeskModel" "wide" "[I", Cond.fieldLink RX6 16 "ColumnDeskModel" "high" "[I", Cond.fieldLink RX6 19 "ColumnDeskModel" "deep" "[I", Cond.fieldLink RX6 22 "ColumnDeskModel" "shift" "[I", Cond.fieldLink RX6 25 "ColumnDeskModel" "order" "[I", Cond.fieldLink RX6 28 "ColumnDeskModel" "shrink" "[I", Cond.fieldLink RX6 31 "ColumnDeskModel" "more" "[J"]
def wsX6_rule : List Cond := .code yX6_rule cX6_rule 4 (some .boolean) :: ((wsX6_rule_r1 ++ wsX6_rule_r2) ++ wsX60)
def wsX6_glue_r1 : List Cond := [Cond.methodLink RX6 73 yX6_isGlue, Cond.static yX6_isGlue, Cond.initialized RX6, Cond.code yX6_isGlue cX6_isGlue 4 (some .boolean), Cond.methodLink RX6 63 yX6_isSize, Cond.static yX6_isSize, Cond.code yX6_isSize cX6_isSize 1 (some .boolean), Cond.constant RX6 57 (-1073741823), Cond.constant RX6 58 (1073741823), Cond.methodLink RX6 106 yX6_add, Cond.instanceMethod yX6_add, Cond.selects RX6 yX6_add yX6_add, Cond.code yX6_add cX6_add 9 (some .boolean), Cond.fieldLink RX6 54 "ColumnDeskModel" "thrown" "I", Cond.fieldLink RX6 89 "ColumnDeskModel" "coming" "I", Cond.methodLink RX6 98 yX6_all, Cond.instanceMethod yX6_all, Cond.selects RX6 yX6_all yX6_all, Cond.code yX6_all cX6_all 3 (some .int), Cond.fieldLink RX6 92 "ColumnDeskModel" "there" "I", Cond.fieldLink RX6 95 "ColumnDeskModel" "kept" "I", Cond.fieldLink RX6 35 "ColumnDeskModel" "items" "[I", Cond.methodLink RX6 102 yX6_write, Cond.instanceMethod yX6_write]
def wsX6_glue_r2 : List Cond := [Cond.selects RX6 yX6_write yX6_write, Cond.code yX6_write cX6_write 9 none, Cond.fieldLink RX6 7 "ColumnDeskModel" "kind" "[I", Cond.fieldLink RX6 13 "ColumnDeskModel" "wide" "[I", Cond.fieldLink RX6 16 "ColumnDeskModel" "high" "[I", Cond.fieldLink RX6 19 "ColumnDeskModel" "deep" "[I", Cond.fieldLink RX6 22 "ColumnDeskModel" "shift" "[I", Cond.fieldLink RX6 25 "ColumnDeskModel" "order" "[I", Cond.fieldLink RX6 28 "ColumnDeskModel" "shrink" "[I", Cond.fieldLink RX6 31 "ColumnDeskModel" "more" "[J"]
def wsX6_glue : List Cond := .code yX6_glue cX6_glue 5 (some .boolean) :: ((wsX6_glue_r1 ++ wsX6_glue_r2) ++ wsX60)
def wsX6_kern_r1 : List Cond := [Cond.methodLink RX6 63 yX6_isSize, Cond.static yX6_isSize, Cond.initialized RX6, Cond.code yX6_isSize cX6_isSize 1 (some .boolean), Cond.constant RX6 57 (-1073741823), Cond.constant RX6 58 (1073741823), Cond.methodLink RX6 106 yX6_add, Cond.instanceMethod yX6_add, Cond.selects RX6 yX6_add yX6_add, Cond.code yX6_add cX6_add 9 (some .boolean), Cond.fieldLink RX6 54 "ColumnDeskModel" "thrown" "I", Cond.fieldLink RX6 89 "ColumnDeskModel" "coming" "I", Cond.methodLink RX6 98 yX6_all, Cond.instanceMethod yX6_all, Cond.selects RX6 yX6_all yX6_all, Cond.code yX6_all cX6_all 3 (some .int), Cond.fieldLink RX6 92 "ColumnDeskModel" "there" "I", Cond.fieldLink RX6 95 "ColumnDeskModel" "kept" "I", Cond.fieldLink RX6 35 "ColumnDeskModel" "items" "[I", Cond.methodLink RX6 102 yX6_write, Cond.instanceMethod yX6_write, Cond.selects RX6 yX6_write yX6_write, Cond.code yX6_write cX6_write 9 none, Cond.fieldLink RX6 7 "ColumnDeskModel" "kind" "[I"]
def wsX6_kern_r2 : List Cond := [Cond.fieldLink RX6 13 "ColumnDeskModel" "wide" "[I", Cond.fieldLink RX6 16 "ColumnDeskModel" "high" "[I", Cond.fieldLink RX6 19 "ColumnDeskModel" "deep" "[I", Cond.fieldLink RX6 22 "ColumnDeskModel" "shift" "[I", Cond.fieldLink RX6 25 "ColumnDeskModel" "order" "[I", Cond.fieldLink RX6 28 "ColumnDeskModel" "shrink" "[I", Cond.fieldLink RX6 31 "ColumnDeskModel" "more" "[J"]
def wsX6_kern : List Cond := .code yX6_kern cX6_kern 2 (some .boolean) :: ((wsX6_kern_r1 ++ wsX6_kern_r2) ++ wsX60)
def wsX6_penalty_r1 : List Cond := [Cond.methodLink RX6 106 yX6_add, Cond.instanceMethod yX6_add, Cond.selects RX6 yX6_add yX6_add, Cond.initialized RX6, Cond.code yX6_add cX6_add 9 (some .boolean), Cond.fieldLink RX6 54 "ColumnDeskModel" "thrown" "I", Cond.fieldLink RX6 89 "ColumnDeskModel" "coming" "I", Cond.methodLink RX6 98 yX6_all, Cond.instanceMethod yX6_all, Cond.selects RX6 yX6_all yX6_all, Cond.code yX6_all cX6_all 3 (some .int), Cond.fieldLink RX6 92 "ColumnDeskModel" "there" "I", Cond.fieldLink RX6 95 "ColumnDeskModel" "kept" "I", Cond.fieldLink RX6 35 "ColumnDeskModel" "items" "[I", Cond.methodLink RX6 102 yX6_write, Cond.instanceMethod yX6_write, Cond.selects RX6 yX6_write yX6_write, Cond.code yX6_write cX6_write 9 none, Cond.fieldLink RX6 7 "ColumnDeskModel" "kind" "[I", Cond.fieldLink RX6 13 "ColumnDeskModel" "wide" "[I", Cond.fieldLink RX6 16 "ColumnDeskModel" "high" "[I", Cond.fieldLink RX6 19 "ColumnDeskModel" "deep" "[I", Cond.fieldLink RX6 22 "ColumnDeskModel" "shift" "[I", Cond.fieldLink RX6 25 "ColumnDeskModel" "order" "[I"]
def wsX6_penalty_r2 : List Cond := [Cond.fieldLink RX6 28 "ColumnDeskModel" "shrink" "[I", Cond.fieldLink RX6 31 "ColumnDeskModel" "more" "[J"]
def wsX6_penalty : List Cond := .code yX6_penalty cX6_penalty 2 (some .boolean) :: ((wsX6_penalty_r1 ++ wsX6_penalty_r2) ++ wsX60)
def wsX6_move : List Cond := .code yX6_move cX6_move 3 none :: ([.fieldLink RX6 7 "ColumnDeskModel" "kind" "[I", .fieldLink RX6 13 "ColumnDeskModel" "wide" "[I", .fieldLink RX6 16 "ColumnDeskModel" "high" "[I", .fieldLink RX6 19 "ColumnDeskModel" "deep" "[I", .fieldLink RX6 22 "ColumnDeskModel" "shift" "[I", .fieldLink RX6 25 "ColumnDeskModel" "order" "[I", .fieldLink RX6 28 "ColumnDeskModel" "shrink" "[I", .fieldLink RX6 31 "ColumnDeskModel" "more" "[J", .methodLink RX6 102 yX6_write, .instanceMethod yX6_write, .selects RX6 yX6_write yX6_write, .initialized RX6, .code yX6_write cX6_write 9 none] ++ wsX60)
def wsX6_take : List Cond := .code yX6_take cX6_take 3 none :: ([.fieldLink RX6 89 "ColumnDeskModel" "coming" "I", .methodLink RX6 110 yX6_move, .instanceMethod yX6_move, .selects RX6 yX6_move yX6_move, .initialized RX6, .code yX6_move cX6_move 3 none, .fieldLink RX6 7 "ColumnDeskModel" "kind" "[I", .fieldLink RX6 13 "ColumnDeskModel" "wide" "[I", .fieldLink RX6 16 "ColumnDeskModel" "high" "[I", .fieldLink RX6 19 "ColumnDeskModel" "deep" "[I", .fieldLink RX6 22 "ColumnDeskModel" "shift" "[I", .fieldLink RX6 25 "ColumnDeskModel" "order" "[I", .fieldLink RX6 28 "ColumnDeskModel" "shrink" "[I", .fieldLink RX6 31 "ColumnDeskModel" "more" "[J", .methodLink RX6 102 yX6_write, .instanceMethod yX6_write, .selects RX6 yX6_write yX6_write, .code yX6_write cX6_write 9 none] ++ wsX60)
def wsX6_isSolid : List Cond := .code yX6_isSolid cX6_isSolid 2 (some .boolean) :: ([.fieldLink RX6 7 "ColumnDeskModel" "kind" "[I"] ++ wsX60)
def wsX6_sums : List Cond := .code yX6_sums cX6_sums 8 none :: ([.fieldLink RX6 114 "ColumnDeskModel" "total" "J", .fieldLink RX6 118 "ColumnDeskModel" "depth" "J", .fieldLink RX6 121 "ColumnDeskModel" "width" "J", .fieldLink RX6 124 "ColumnDeskModel" "shrinks" "J", .fieldLink RX6 51 "ColumnDeskModel" "stretches" "[J", .fieldLink RX6 16 "ColumnDeskModel" "high" "[I", .fieldLink RX6 19 "ColumnDeskModel" "deep" "[I", .fieldLink RX6 7 "ColumnDeskModel" "kind" "[I", .fieldLink RX6 13 "ColumnDeskModel" "wide" "[I", .fieldLink RX6 25 "ColumnDeskModel" "order" "[I", .fieldLink RX6 22 "ColumnDeskModel" "shift" "[I", .fieldLink RX6 28 "ColumnDeskModel" "shrink" "[I", .methodLink RX6 127 yX6_isSolid, .instanceMethod yX6_isSolid, .selects RX6 yX6_isSolid yX6_isSolid, .initialized RX6, .code yX6_isSolid cX6_isSolid 2 (some .boolean)] ++ wsX60)
def wsX6_badness : List Cond := .code yX6_badness cX6_badness 6 (some .int) :: ([.constantLong RX6 130 (297), .constantLong RX6 132 (1290), .constantLong RX6 134 (131072), .constantLong RX6 136 (262144)])
def wsX6_weight : List Cond := .code yX6_weight cX6_weight 1 (some .int) :: ([.fieldLink RX6 114 "ColumnDeskModel" "total" "J", .fieldLink RX6 138 "ColumnDeskModel" "goal" "I", .fieldLink RX6 51 "ColumnDeskModel" "stretches" "[J", .fieldLink RX6 124 "ColumnDeskModel" "shrinks" "J", .methodLink RX6 141 yX6_badness, .static yX6_badness, .initialized RX6, .code yX6_badness cX6_badness 6 (some .int), .constantLong RX6 130 (297), .constantLong RX6 132 (1290), .constantLong RX6 134 (131072), .constantLong RX6 136 (262144)] ++ wsX60)
def wsX6_near : List Cond := .code yX6_near cX6_near 6 (some .long) :: ([.constantLong RX6 145 (2)])
def wsX6_share : List Cond := .code yX6_share cX6_share 17 none :: ([.fieldLink RX6 51 "ColumnDeskModel" "stretches" "[J", .fieldLink RX6 124 "ColumnDeskModel" "shrinks" "J", .fieldLink RX6 7 "ColumnDeskModel" "kind" "[I", .fieldLink RX6 25 "ColumnDeskModel" "order" "[I", .fieldLink RX6 22 "ColumnDeskModel" "shift" "[I", .fieldLink RX6 28 "ColumnDeskModel" "shrink" "[I", .fieldLink RX6 31 "ColumnDeskModel" "more" "[J", .methodLink RX6 147 yX6_near, .static yX6_near, .initialized RX6, .code yX6_near cX6_near 6 (some .long), .constantLong RX6 145 (2)] ++ wsX60)
def wsX6_forget_r1 : List Cond := [Cond.fieldLink RX6 35 "ColumnDeskModel" "items" "[I", Cond.fieldLink RX6 89 "ColumnDeskModel" "coming" "I", Cond.fieldLink RX6 92 "ColumnDeskModel" "there" "I", Cond.fieldLink RX6 95 "ColumnDeskModel" "kept" "I", Cond.fieldLink RX6 38 "ColumnDeskModel" "heights" "[I", Cond.fieldLink RX6 41 "ColumnDeskModel" "depths" "[I", Cond.fieldLink RX6 44 "ColumnDeskModel" "widths" "[I", Cond.methodLink RX6 98 yX6_all, Cond.instanceMethod yX6_all, Cond.selects RX6 yX6_all yX6_all, Cond.initialized RX6, Cond.code yX6_all cX6_all 3 (some .int), Cond.methodLink RX6 110 yX6_move, Cond.instanceMethod yX6_move, Cond.selects RX6 yX6_move yX6_move, Cond.code yX6_move cX6_move 3 none, Cond.fieldLink RX6 7 "ColumnDeskModel" "kind" "[I", Cond.fieldLink RX6 13 "ColumnDeskModel" "wide" "[I", Cond.fieldLink RX6 16 "ColumnDeskModel" "high" "[I", Cond.fieldLink RX6 19 "ColumnDeskModel" "deep" "[I", Cond.fieldLink RX6 22 "ColumnDeskModel" "shift" "[I", Cond.fieldLink RX6 25 "ColumnDeskModel" "order" "[I", Cond.fieldLink RX6 28 "ColumnDeskModel" "shrink" "[I", Cond.fieldLink RX6 31 "ColumnDeskModel" "more" "[J"]
def wsX6_forget_r2 : List Cond := [Cond.methodLink RX6 102 yX6_write, Cond.instanceMethod yX6_write, Cond.selects RX6 yX6_write yX6_write, Cond.code yX6_write cX6_write 9 none]
def wsX6_forget : List Cond := .code yX6_forget cX6_forget 4 none :: ((wsX6_forget_r1 ++ wsX6_forget_r2) ++ wsX60)
def wsX6_end_r1 : List Cond := [Cond.fieldLink RX6 151 "ColumnDeskModel" "most" "I", Cond.fieldLink RX6 114 "ColumnDeskModel" "total" "J", Cond.fieldLink RX6 124 "ColumnDeskModel" "shrinks" "J", Cond.fieldLink RX6 121 "ColumnDeskModel" "width" "J", Cond.fieldLink RX6 118 "ColumnDeskModel" "depth" "J", Cond.fieldLink RX6 51 "ColumnDeskModel" "stretches" "[J", Cond.fieldLink RX6 138 "ColumnDeskModel" "goal" "I", Cond.fieldLink RX6 95 "ColumnDeskModel" "kept" "I", Cond.fieldLink RX6 35 "ColumnDeskModel" "items" "[I", Cond.fieldLink RX6 38 "ColumnDeskModel" "heights" "[I", Cond.fieldLink RX6 41 "ColumnDeskModel" "depths" "[I", Cond.fieldLink RX6 44 "ColumnDeskModel" "widths" "[I", Cond.fieldLink RX6 169 "ColumnDeskModel" "made" "I", Cond.fieldLink RX6 92 "ColumnDeskModel" "there" "I", Cond.fieldLink RX6 89 "ColumnDeskModel" "coming" "I", Cond.fieldLink RX6 47 "ColumnDeskModel" "best" "I", Cond.methodLink RX6 154 yX6_sums, Cond.instanceMethod yX6_sums, Cond.selects RX6 yX6_sums yX6_sums, Cond.initialized RX6, Cond.code yX6_sums cX6_sums 8 none, Cond.fieldLink RX6 16 "ColumnDeskModel" "high" "[I", Cond.fieldLink RX6 19 "ColumnDeskModel" "deep" "[I", Cond.fieldLink RX6 7 "ColumnDeskModel" "kind" "[I"]
def wsX6_end_r2 : List Cond := [Cond.fieldLink RX6 13 "ColumnDeskModel" "wide" "[I", Cond.fieldLink RX6 25 "ColumnDeskModel" "order" "[I", Cond.fieldLink RX6 22 "ColumnDeskModel" "shift" "[I", Cond.fieldLink RX6 28 "ColumnDeskModel" "shrink" "[I", Cond.methodLink RX6 127 yX6_isSolid, Cond.instanceMethod yX6_isSolid, Cond.selects RX6 yX6_isSolid yX6_isSolid, Cond.code yX6_isSolid cX6_isSolid 2 (some .boolean), Cond.methodLink RX6 158 yX6_isSizeLong, Cond.static yX6_isSizeLong, Cond.code yX6_isSizeLong cX6_isSizeLong 2 (some .boolean), Cond.constantLong RX6 59 (-1073741823), Cond.constantLong RX6 61 (1073741823), Cond.methodLink RX6 162 yX6_share, Cond.instanceMethod yX6_share, Cond.selects RX6 yX6_share yX6_share, Cond.code yX6_share cX6_share 17 none, Cond.fieldLink RX6 31 "ColumnDeskModel" "more" "[J", Cond.methodLink RX6 147 yX6_near, Cond.static yX6_near, Cond.code yX6_near cX6_near 6 (some .long), Cond.constantLong RX6 145 (2), Cond.methodLink RX6 166 yX6_forget, Cond.instanceMethod yX6_forget]
def wsX6_end_r3 : List Cond := [Cond.selects RX6 yX6_forget yX6_forget, Cond.code yX6_forget cX6_forget 4 none, Cond.methodLink RX6 98 yX6_all, Cond.instanceMethod yX6_all, Cond.selects RX6 yX6_all yX6_all, Cond.code yX6_all cX6_all 3 (some .int), Cond.methodLink RX6 110 yX6_move, Cond.instanceMethod yX6_move, Cond.selects RX6 yX6_move yX6_move, Cond.code yX6_move cX6_move 3 none, Cond.methodLink RX6 102 yX6_write, Cond.instanceMethod yX6_write, Cond.selects RX6 yX6_write yX6_write, Cond.code yX6_write cX6_write 9 none]
def wsX6_end : List Cond := .code yX6_end cX6_end 6 (some .boolean) :: ((wsX6_end_r1 ++ (wsX6_end_r2 ++ wsX6_end_r3)) ++ wsX60)
def wsX6_begin : List Cond := .code yX6_begin cX6_begin 3 none :: ([.fieldLink RX6 67 "ColumnDeskModel" "height" "I", .fieldLink RX6 138 "ColumnDeskModel" "goal" "I", .fieldLink RX6 70 "ColumnDeskModel" "limit" "I", .fieldLink RX6 151 "ColumnDeskModel" "most" "I", .fieldLink RX6 47 "ColumnDeskModel" "best" "I", .fieldLink RX6 77 "ColumnDeskModel" "topWidth" "I", .fieldLink RX6 16 "ColumnDeskModel" "high" "[I", .fieldLink RX6 80 "ColumnDeskModel" "topStretch" "I", .fieldLink RX6 83 "ColumnDeskModel" "topOrder" "I", .fieldLink RX6 86 "ColumnDeskModel" "topShrink" "I", .fieldLink RX6 92 "ColumnDeskModel" "there" "I", .methodLink RX6 102 yX6_write, .instanceMethod yX6_write, .selects RX6 yX6_write yX6_write, .initialized RX6, .code yX6_write cX6_write 9 none, .fieldLink RX6 7 "ColumnDeskModel" "kind" "[I", .fieldLink RX6 13 "ColumnDeskModel" "wide" "[I", .fieldLink RX6 19 "ColumnDeskModel" "deep" "[I", .fieldLink RX6 22 "ColumnDeskModel" "shift" "[I", .fieldLink RX6 25 "ColumnDeskModel" "order" "[I", .fieldLink RX6 28 "ColumnDeskModel" "shrink" "[I", .fieldLink RX6 31 "ColumnDeskModel" "more" "[J"] ++ wsX60)
def wsX6_come_r1 : List Cond := [Cond.fieldLink RX6 7 "ColumnDeskModel" "kind" "[I", Cond.fieldLink RX6 92 "ColumnDeskModel" "there" "I", Cond.fieldLink RX6 13 "ColumnDeskModel" "wide" "[I", Cond.fieldLink RX6 151 "ColumnDeskModel" "most" "I", Cond.constant RX6 175 (100000), Cond.fieldLink RX6 47 "ColumnDeskModel" "best" "I", Cond.fieldLink RX6 176 "ColumnDeskModel" "cost" "I", Cond.methodLink RX6 127 yX6_isSolid, Cond.instanceMethod yX6_isSolid, Cond.selects RX6 yX6_isSolid yX6_isSolid, Cond.initialized RX6, Cond.code yX6_isSolid cX6_isSolid 2 (some .boolean), Cond.methodLink RX6 154 yX6_sums, Cond.instanceMethod yX6_sums, Cond.selects RX6 yX6_sums yX6_sums, Cond.code yX6_sums cX6_sums 8 none, Cond.fieldLink RX6 114 "ColumnDeskModel" "total" "J", Cond.fieldLink RX6 118 "ColumnDeskModel" "depth" "J", Cond.fieldLink RX6 121 "ColumnDeskModel" "width" "J", Cond.fieldLink RX6 124 "ColumnDeskModel" "shrinks" "J", Cond.fieldLink RX6 51 "ColumnDeskModel" "stretches" "[J", Cond.fieldLink RX6 16 "ColumnDeskModel" "high" "[I", Cond.fieldLink RX6 19 "ColumnDeskModel" "deep" "[I", Cond.fieldLink RX6 25 "ColumnDeskModel" "order" "[I"]
def wsX6_come_r2 : List Cond := [Cond.fieldLink RX6 22 "ColumnDeskModel" "shift" "[I", Cond.fieldLink RX6 28 "ColumnDeskModel" "shrink" "[I", Cond.methodLink RX6 172 yX6_weight, Cond.instanceMethod yX6_weight, Cond.selects RX6 yX6_weight yX6_weight, Cond.code yX6_weight cX6_weight 1 (some .int), Cond.fieldLink RX6 138 "ColumnDeskModel" "goal" "I", Cond.methodLink RX6 141 yX6_badness, Cond.static yX6_badness, Cond.code yX6_badness cX6_badness 6 (some .int), Cond.constantLong RX6 130 (297), Cond.constantLong RX6 132 (1290), Cond.constantLong RX6 134 (131072), Cond.constantLong RX6 136 (262144), Cond.methodLink RX6 179 yX6_end, Cond.instanceMethod yX6_end, Cond.selects RX6 yX6_end yX6_end, Cond.code yX6_end cX6_end 6 (some .boolean), Cond.fieldLink RX6 95 "ColumnDeskModel" "kept" "I", Cond.fieldLink RX6 35 "ColumnDeskModel" "items" "[I", Cond.fieldLink RX6 38 "ColumnDeskModel" "heights" "[I", Cond.fieldLink RX6 41 "ColumnDeskModel" "depths" "[I", Cond.fieldLink RX6 44 "ColumnDeskModel" "widths" "[I", Cond.fieldLink RX6 169 "ColumnDeskModel" "made" "I"]
def wsX6_come_r3 : List Cond := [Cond.fieldLink RX6 89 "ColumnDeskModel" "coming" "I", Cond.methodLink RX6 158 yX6_isSizeLong, Cond.static yX6_isSizeLong, Cond.code yX6_isSizeLong cX6_isSizeLong 2 (some .boolean), Cond.constantLong RX6 59 (-1073741823), Cond.constantLong RX6 61 (1073741823), Cond.methodLink RX6 162 yX6_share, Cond.instanceMethod yX6_share, Cond.selects RX6 yX6_share yX6_share, Cond.code yX6_share cX6_share 17 none, Cond.fieldLink RX6 31 "ColumnDeskModel" "more" "[J", Cond.methodLink RX6 147 yX6_near, Cond.static yX6_near, Cond.code yX6_near cX6_near 6 (some .long), Cond.constantLong RX6 145 (2), Cond.methodLink RX6 166 yX6_forget, Cond.instanceMethod yX6_forget, Cond.selects RX6 yX6_forget yX6_forget, Cond.code yX6_forget cX6_forget 4 none, Cond.methodLink RX6 98 yX6_all, Cond.instanceMethod yX6_all, Cond.selects RX6 yX6_all yX6_all, Cond.code yX6_all cX6_all 3 (some .int), Cond.methodLink RX6 110 yX6_move]
def wsX6_come_r4 : List Cond := [Cond.instanceMethod yX6_move, Cond.selects RX6 yX6_move yX6_move, Cond.code yX6_move cX6_move 3 none, Cond.methodLink RX6 102 yX6_write, Cond.instanceMethod yX6_write, Cond.selects RX6 yX6_write yX6_write, Cond.code yX6_write cX6_write 9 none, Cond.methodLink RX6 182 yX6_take, Cond.instanceMethod yX6_take, Cond.selects RX6 yX6_take yX6_take, Cond.code yX6_take cX6_take 3 none]
def wsX6_come : List Cond := .code yX6_come cX6_come 5 (some .int) :: ((wsX6_come_r1 ++ (wsX6_come_r2 ++ (wsX6_come_r3 ++ wsX6_come_r4))) ++ wsX60)
def wsX6_build_r1 : List Cond := [Cond.fieldLink RX6 54 "ColumnDeskModel" "thrown" "I", Cond.fieldLink RX6 169 "ColumnDeskModel" "made" "I", Cond.fieldLink RX6 89 "ColumnDeskModel" "coming" "I", Cond.fieldLink RX6 7 "ColumnDeskModel" "kind" "[I", Cond.fieldLink RX6 92 "ColumnDeskModel" "there" "I", Cond.fieldLink RX6 95 "ColumnDeskModel" "kept" "I", Cond.fieldLink RX6 47 "ColumnDeskModel" "best" "I", Cond.methodLink RX6 127 yX6_isSolid, Cond.instanceMethod yX6_isSolid, Cond.selects RX6 yX6_isSolid yX6_isSolid, Cond.initialized RX6, Cond.code yX6_isSolid cX6_isSolid 2 (some .boolean), Cond.methodLink RX6 182 yX6_take, Cond.instanceMethod yX6_take, Cond.selects RX6 yX6_take yX6_take, Cond.code yX6_take cX6_take 3 none, Cond.methodLink RX6 110 yX6_move, Cond.instanceMethod yX6_move, Cond.selects RX6 yX6_move yX6_move, Cond.code yX6_move cX6_move 3 none, Cond.fieldLink RX6 13 "ColumnDeskModel" "wide" "[I", Cond.fieldLink RX6 16 "ColumnDeskModel" "high" "[I", Cond.fieldLink RX6 19 "ColumnDeskModel" "deep" "[I", Cond.fieldLink RX6 22 "ColumnDeskModel" "shift" "[I"]
def wsX6_build_r2 : List Cond := [Cond.fieldLink RX6 25 "ColumnDeskModel" "order" "[I", Cond.fieldLink RX6 28 "ColumnDeskModel" "shrink" "[I", Cond.fieldLink RX6 31 "ColumnDeskModel" "more" "[J", Cond.methodLink RX6 102 yX6_write, Cond.instanceMethod yX6_write, Cond.selects RX6 yX6_write yX6_write, Cond.code yX6_write cX6_write 9 none, Cond.methodLink RX6 186 yX6_begin, Cond.instanceMethod yX6_begin, Cond.selects RX6 yX6_begin yX6_begin, Cond.code yX6_begin cX6_begin 3 none, Cond.fieldLink RX6 67 "ColumnDeskModel" "height" "I", Cond.fieldLink RX6 138 "ColumnDeskModel" "goal" "I", Cond.fieldLink RX6 70 "ColumnDeskModel" "limit" "I", Cond.fieldLink RX6 151 "ColumnDeskModel" "most" "I", Cond.fieldLink RX6 77 "ColumnDeskModel" "topWidth" "I", Cond.fieldLink RX6 80 "ColumnDeskModel" "topStretch" "I", Cond.fieldLink RX6 83 "ColumnDeskModel" "topOrder" "I", Cond.fieldLink RX6 86 "ColumnDeskModel" "topShrink" "I", Cond.methodLink RX6 189 yX6_come, Cond.instanceMethod yX6_come, Cond.selects RX6 yX6_come yX6_come, Cond.code yX6_come cX6_come 5 (some .int), Cond.constant RX6 175 (100000)]
def wsX6_build_r3 : List Cond := [Cond.fieldLink RX6 176 "ColumnDeskModel" "cost" "I", Cond.methodLink RX6 154 yX6_sums, Cond.instanceMethod yX6_sums, Cond.selects RX6 yX6_sums yX6_sums, Cond.code yX6_sums cX6_sums 8 none, Cond.fieldLink RX6 114 "ColumnDeskModel" "total" "J", Cond.fieldLink RX6 118 "ColumnDeskModel" "depth" "J", Cond.fieldLink RX6 121 "ColumnDeskModel" "width" "J", Cond.fieldLink RX6 124 "ColumnDeskModel" "shrinks" "J", Cond.fieldLink RX6 51 "ColumnDeskModel" "stretches" "[J", Cond.methodLink RX6 172 yX6_weight, Cond.instanceMethod yX6_weight, Cond.selects RX6 yX6_weight yX6_weight, Cond.code yX6_weight cX6_weight 1 (some .int), Cond.methodLink RX6 141 yX6_badness, Cond.static yX6_badness, Cond.code yX6_badness cX6_badness 6 (some .int), Cond.constantLong RX6 130 (297), Cond.constantLong RX6 132 (1290), Cond.constantLong RX6 134 (131072), Cond.constantLong RX6 136 (262144), Cond.methodLink RX6 179 yX6_end, Cond.instanceMethod yX6_end, Cond.selects RX6 yX6_end yX6_end]
def wsX6_build_r4 : List Cond := [Cond.code yX6_end cX6_end 6 (some .boolean), Cond.fieldLink RX6 35 "ColumnDeskModel" "items" "[I", Cond.fieldLink RX6 38 "ColumnDeskModel" "heights" "[I", Cond.fieldLink RX6 41 "ColumnDeskModel" "depths" "[I", Cond.fieldLink RX6 44 "ColumnDeskModel" "widths" "[I", Cond.methodLink RX6 158 yX6_isSizeLong, Cond.static yX6_isSizeLong, Cond.code yX6_isSizeLong cX6_isSizeLong 2 (some .boolean), Cond.constantLong RX6 59 (-1073741823), Cond.constantLong RX6 61 (1073741823), Cond.methodLink RX6 162 yX6_share, Cond.instanceMethod yX6_share, Cond.selects RX6 yX6_share yX6_share, Cond.code yX6_share cX6_share 17 none, Cond.methodLink RX6 147 yX6_near, Cond.static yX6_near, Cond.code yX6_near cX6_near 6 (some .long), Cond.constantLong RX6 145 (2), Cond.methodLink RX6 166 yX6_forget, Cond.instanceMethod yX6_forget, Cond.selects RX6 yX6_forget yX6_forget, Cond.code yX6_forget cX6_forget 4 none, Cond.methodLink RX6 98 yX6_all, Cond.instanceMethod yX6_all]
def wsX6_build_r5 : List Cond := [Cond.selects RX6 yX6_all yX6_all, Cond.code yX6_all cX6_all 3 (some .int), Cond.methodLink RX6 192 yX6_fails, Cond.instanceMethod yX6_fails, Cond.selects RX6 yX6_fails yX6_fails, Cond.code yX6_fails cX6_fails 1 (some .int)]
def wsX6_build : List Cond := .code yX6_build cX6_build 2 (some .int) :: ((wsX6_build_r1 ++ (wsX6_build_r2 ++ (wsX6_build_r3 ++ (wsX6_build_r4 ++ wsX6_build_r5)))) ++ wsX60)
def wsX6_about : List Cond := .code yX6_about cX6_about 4 (some .int) :: ([.fieldLink RX6 95 "ColumnDeskModel" "kept" "I", .fieldLink RX6 54 "ColumnDeskModel" "thrown" "I", .fieldLink RX6 38 "ColumnDeskModel" "heights" "[I", .fieldLink RX6 41 "ColumnDeskModel" "depths" "[I", .fieldLink RX6 44 "ColumnDeskModel" "widths" "[I", .fieldLink RX6 35 "ColumnDeskModel" "items" "[I", .methodLink RX6 192 yX6_fails, .instanceMethod yX6_fails, .selects RX6 yX6_fails yX6_fails, .initialized RX6, .code yX6_fails cX6_fails 1 (some .int)] ++ wsX60)
def wsX6_item : List Cond := .code yX6_item cX6_item 8 (some .int) :: ([.fieldLink RX6 95 "ColumnDeskModel" "kept" "I", .fieldLink RX6 35 "ColumnDeskModel" "items" "[I", .fieldLink RX6 54 "ColumnDeskModel" "thrown" "I", .fieldLink RX6 13 "ColumnDeskModel" "wide" "[I", .fieldLink RX6 31 "ColumnDeskModel" "more" "[J", .fieldLink RX6 7 "ColumnDeskModel" "kind" "[I", .constantLong RX6 195 (2147483647), .constantLong RX6 197 (-2147483647), .fieldLink RX6 16 "ColumnDeskModel" "high" "[I", .fieldLink RX6 19 "ColumnDeskModel" "deep" "[I", .methodLink RX6 192 yX6_fails, .instanceMethod yX6_fails, .selects RX6 yX6_fails yX6_fails, .initialized RX6, .code yX6_fails cX6_fails 1 (some .int)] ++ wsX60)
def wsX6_count : List Cond := .code yX6_count cX6_count 2 (some .int) :: ([.fieldLink RX6 54 "ColumnDeskModel" "thrown" "I", .fieldLink RX6 169 "ColumnDeskModel" "made" "I", .fieldLink RX6 89 "ColumnDeskModel" "coming" "I", .fieldLink RX6 92 "ColumnDeskModel" "there" "I", .fieldLink RX6 47 "ColumnDeskModel" "best" "I"] ++ wsX60)
def wsX6_sum_r1 : List Cond := [Cond.fieldLink RX6 54 "ColumnDeskModel" "thrown" "I", Cond.fieldLink RX6 92 "ColumnDeskModel" "there" "I", Cond.fieldLink RX6 151 "ColumnDeskModel" "most" "I", Cond.fieldLink RX6 114 "ColumnDeskModel" "total" "J", Cond.fieldLink RX6 118 "ColumnDeskModel" "depth" "J", Cond.fieldLink RX6 124 "ColumnDeskModel" "shrinks" "J", Cond.fieldLink RX6 51 "ColumnDeskModel" "stretches" "[J", Cond.fieldLink RX6 47 "ColumnDeskModel" "best" "I", Cond.fieldLink RX6 176 "ColumnDeskModel" "cost" "I", Cond.methodLink RX6 154 yX6_sums, Cond.instanceMethod yX6_sums, Cond.selects RX6 yX6_sums yX6_sums, Cond.initialized RX6, Cond.code yX6_sums cX6_sums 8 none, Cond.fieldLink RX6 121 "ColumnDeskModel" "width" "J", Cond.fieldLink RX6 16 "ColumnDeskModel" "high" "[I", Cond.fieldLink RX6 19 "ColumnDeskModel" "deep" "[I", Cond.fieldLink RX6 7 "ColumnDeskModel" "kind" "[I", Cond.fieldLink RX6 13 "ColumnDeskModel" "wide" "[I", Cond.fieldLink RX6 25 "ColumnDeskModel" "order" "[I", Cond.fieldLink RX6 22 "ColumnDeskModel" "shift" "[I", Cond.fieldLink RX6 28 "ColumnDeskModel" "shrink" "[I", Cond.methodLink RX6 127 yX6_isSolid, Cond.instanceMethod yX6_isSolid]
def wsX6_sum_r2 : List Cond := [Cond.selects RX6 yX6_isSolid yX6_isSolid, Cond.code yX6_isSolid cX6_isSolid 2 (some .boolean)]
def wsX6_sum : List Cond := .code yX6_sum cX6_sum 2 (some .long) :: ((wsX6_sum_r1 ++ wsX6_sum_r2) ++ wsX60)
def wsJ9_abs_067f4 : List Cond := .code yJ9_abs_067f4 cJ9_abs_067f4 2 (some .long) :: ([])
def wsJ9_max_7cf53 : List Cond := .code yJ9_max_7cf53 cJ9_max_7cf53 2 (some .int) :: ([])
def wsJ9_max_f86c9 : List Cond := .code yJ9_max_f86c9 cJ9_max_f86c9 4 (some .long) :: ([])
def wsJ9_min_7cf53 : List Cond := .code yJ9_min_7cf53 cJ9_min_7cf53 2 (some .int) :: ([])
def wsJ9_min_f86c9 : List Cond := .code yJ9_min_f86c9 cJ9_min_f86c9 4 (some .long) :: ([])
def wsL_build_r1 : List Cond := [Cond.classLink RL 13 "java/lang/UnsupportedOperationException", Cond.methodLink RL 7 yX5_build, Cond.instanceMethod yX5_build, Cond.selects RX5 yX5_build yX5_build, Cond.initialized RX5, Cond.code yX5_build cX5_build 4 (some .int), Cond.classLink RX5 101 "java/lang/UnsupportedOperationException", Cond.initialized "java/lang/UnsupportedOperationException", Cond.fieldLink RX5 14 "ColumnDesk" "column" "LColumnDesk$Items;", Cond.methodLink RX5 89 yX0_size, Cond.instanceMethod yX0_size, Cond.selects RX0 yX0_size yX0_size, Cond.initialized RX0, Cond.code yX0_size cX0_size 1 (some .int), Cond.fieldLink RX0 15 "ColumnDesk$Items" "size" "I", Cond.methodLink RX5 92 yX5_fillPage, Cond.instanceMethod yX5_fillPage, Cond.selects RX5 yX5_fillPage yX5_fillPage, Cond.code yX5_fillPage cX5_fillPage 4 (some .boolean), Cond.fieldLink RX5 43 "ColumnDesk" "next" "I", Cond.fieldLink RX5 21 "ColumnDesk" "current" "LColumnDesk$Page;", Cond.methodLink RX5 145 yX5_toCome, Cond.instanceMethod yX5_toCome, Cond.selects RX5 yX5_toCome yX5_toCome]
def wsL_build_r2 : List Cond := [Cond.code yX5_toCome cX5_toCome 1 (some .int), Cond.methodLink RX5 138 yX0_at, Cond.instanceMethod yX0_at, Cond.selects RX0 yX0_at yX0_at, Cond.code yX0_at cX0_at 4 (some .int), Cond.fieldLink RX0 9 "ColumnDesk$Items" "cells" "[I", Cond.methodLink RX5 188 yX5_isSolid, Cond.static yX5_isSolid, Cond.code yX5_isSolid cX5_isSolid 1 (some .boolean), Cond.methodLink RX5 192 yX5_beginPage, Cond.instanceMethod yX5_beginPage, Cond.selects RX5 yX5_beginPage yX5_beginPage, Cond.code yX5_beginPage cX5_beginPage 3 none, Cond.fieldLink RX5 61 "ColumnDesk" "topWidth" "I", Cond.methodLink RX5 205 Lib.Math.max.name, Cond.static Lib.Math.max.name, Cond.initialized "java/lang/Math", Cond.code Lib.Math.max.name Lib.Math.max.code 2 (some .int), Cond.fieldLink RX5 64 "ColumnDesk" "topStretch" "I", Cond.fieldLink RX5 67 "ColumnDesk" "topOrder" "I", Cond.fieldLink RX5 70 "ColumnDesk" "topShrink" "I", Cond.fieldLink RX5 51 "ColumnDesk" "toldHeight" "I", Cond.fieldLink RX5 54 "ColumnDesk" "toldDepth" "I", Cond.methodLink RX5 81 yX0_makeGlue]
def wsL_build_r3 : List Cond := [Cond.instanceMethod yX0_makeGlue, Cond.selects RX0 yX0_makeGlue yX0_makeGlue, Cond.code yX0_makeGlue cX0_makeGlue 6 none, Cond.methodLink RX0 27 yX0_makePlain, Cond.instanceMethod yX0_makePlain, Cond.selects RX0 yX0_makePlain yX0_makePlain, Cond.code yX0_makePlain cX0_makePlain 5 none, Cond.methodLink RX0 23 yX0_put, Cond.instanceMethod yX0_put, Cond.selects RX0 yX0_put yX0_put, Cond.code yX0_put cX0_put 5 none, Cond.methodLink RX5 210 yX2_begin, Cond.instanceMethod yX2_begin, Cond.selects RX2 yX2_begin yX2_begin, Cond.initialized RX2, Cond.code yX2_begin cX2_begin 4 none, Cond.fieldLink RX2 22 "ColumnDesk$Page" "begun" "Z", Cond.fieldLink RX2 26 "ColumnDesk$Page" "first" "I", Cond.fieldLink RX2 29 "ColumnDesk$Page" "goal" "I", Cond.fieldLink RX2 12 "ColumnDesk$Page" "sums" "LColumnDesk$Sums;", Cond.methodLink RX2 32 yX4_clear, Cond.instanceMethod yX4_clear, Cond.selects RX4 yX4_clear yX4_clear, Cond.initialized RX4]
def wsL_build_r4 : List Cond := [Cond.code yX4_clear cX4_clear 2 none, Cond.fieldLink RX4 9 "ColumnDesk$Sums" "stretch" "[J", Cond.fieldLink RX4 21 "ColumnDesk$Sums" "shrink" "J", Cond.fieldLink RX4 25 "ColumnDesk$Sums" "all" "J", Cond.fieldLink RX4 28 "ColumnDesk$Sums" "depth" "J", Cond.fieldLink RX4 31 "ColumnDesk$Sums" "width" "J", Cond.fieldLink RX4 34 "ColumnDesk$Sums" "limit" "I", Cond.methodLink RX4 15 yJ7_fill_d0a16, Cond.static yJ7_fill_d0a16, Cond.initialized RJ7, Cond.code yJ7_fill_d0a16 cJ7_fill_d0a16 5 none, Cond.methodLink RX5 201 yX4_take, Cond.instanceMethod yX4_take, Cond.selects RX4 yX4_take yX4_take, Cond.code yX4_take cX4_take 3 none, Cond.methodLink RX4 38 yX0_at, Cond.methodLink RX4 44 yX4_takeSolid, Cond.instanceMethod yX4_takeSolid, Cond.selects RX4 yX4_takeSolid yX4_takeSolid, Cond.code yX4_takeSolid cX4_takeSolid 5 none, Cond.methodLink RX4 51 Lib.MathLoose.min_long.x, Cond.static Lib.MathLoose.min_long.x, Cond.code Lib.MathLoose.min_long.x Lib.MathLoose.min_long.code 4 (some .long), Cond.methodLink RX4 57 Lib.MathLoose.max_long.x]
def wsL_build_r5 : List Cond := [Cond.static Lib.MathLoose.max_long.x, Cond.code Lib.MathLoose.max_long.x Lib.MathLoose.max_long.code 4 (some .long), Cond.methodLink RX4 48 yX4_takeGlue, Cond.instanceMethod yX4_takeGlue, Cond.selects RX4 yX4_takeGlue yX4_takeGlue, Cond.code yX4_takeGlue cX4_takeGlue 4 none, Cond.methodLink RX5 195 yX5_isBreak, Cond.instanceMethod yX5_isBreak, Cond.selects RX5 yX5_isBreak yX5_isBreak, Cond.code yX5_isBreak cX5_isBreak 2 (some .boolean), Cond.methodLink RX5 198 yX5_endsAtBreak, Cond.instanceMethod yX5_endsAtBreak, Cond.selects RX5 yX5_endsAtBreak yX5_endsAtBreak, Cond.code yX5_endsAtBreak cX5_endsAtBreak 3 (some .boolean), Cond.methodLink RX5 148 yX5_onPage, Cond.instanceMethod yX5_onPage, Cond.selects RX5 yX5_onPage yX5_onPage, Cond.code yX5_onPage cX5_onPage 1 (some .int), Cond.methodLink RX5 213 yX2_weigh, Cond.instanceMethod yX2_weigh, Cond.selects RX2 yX2_weigh yX2_weigh, Cond.code yX2_weigh cX2_weigh 8 (some .boolean), Cond.constantLong RX2 44 (-1), Cond.fieldLink RX2 36 "ColumnDesk$Page" "leastCost" "J"]
def wsL_build_r6 : List Cond := [Cond.fieldLink RX2 18 "ColumnDesk$Page" "best" "I", Cond.methodLink RX2 40 yX2_badnessNow, Cond.instanceMethod yX2_badnessNow, Cond.selects RX2 yX2_badnessNow yX2_badnessNow, Cond.code yX2_badnessNow cX2_badnessNow 3 (some .long), Cond.methodLink RX2 54 yX4_total, Cond.instanceMethod yX4_total, Cond.selects RX4 yX4_total yX4_total, Cond.code yX4_total cX4_total 1 (some .long), Cond.static yX5_badness, Cond.code yX5_badness cX5_badness 6 (some .long), Cond.constantLong RX5 249 (10000), Cond.constantLong RX5 251 (297), Cond.constantLong RX5 253 (1290), Cond.constantLong RX5 255 (131072), Cond.constantLong RX5 257 (262144), Cond.methodLink RX2 64 yX4_highestOrder, Cond.instanceMethod yX4_highestOrder, Cond.selects RX4 yX4_highestOrder yX4_highestOrder, Cond.code yX4_highestOrder cX4_highestOrder 2 (some .int), Cond.methodLink RX2 68 yX4_stretchOf, Cond.instanceMethod yX4_stretchOf, Cond.selects RX4 yX4_stretchOf yX4_stretchOf, Cond.code yX4_stretchOf cX4_stretchOf 2 (some .long)]
def wsL_build_r7 : List Cond := [Cond.methodLink RX2 46 yX2_costOf, Cond.static yX2_costOf, Cond.code yX2_costOf cX2_costOf 3 (some .long), Cond.constantLong RX2 72 (10000), Cond.constantLong RX2 74 (100000), Cond.methodLink RX2 50 yX2_hasBest, Cond.instanceMethod yX2_hasBest, Cond.selects RX2 yX2_hasBest yX2_hasBest, Cond.code yX2_hasBest cX2_hasBest 1 (some .boolean), Cond.methodLink RX5 95 yX5_endPage, Cond.instanceMethod yX5_endPage, Cond.selects RX5 yX5_endPage yX5_endPage, Cond.code yX5_endPage cX5_endPage 4 (some .boolean), Cond.fieldLink RX5 35 "ColumnDesk" "madeSums" "LColumnDesk$Sums;", Cond.fieldLink RX5 28 "ColumnDesk" "shelf" "LColumnDesk$Shelf;", Cond.methodLink RX5 151 yX2_hasBest, Cond.methodLink RX5 223 yX4_clear, Cond.methodLink RX5 226 yX4_areSizes, Cond.instanceMethod yX4_areSizes, Cond.selects RX4 yX4_areSizes yX4_areSizes, Cond.code yX4_areSizes cX4_areSizes 2 (some .boolean), Cond.static yX5_isSize, Cond.code yX5_isSize cX5_isSize 2 (some .boolean), Cond.constantLong RX5 245 (-1073741823)]
def wsL_build_r8 : List Cond := [Cond.constantLong RX5 247 (1073741823), Cond.methodLink RX4 64 yX4_total, Cond.methodLink RX5 232 yX3_put, Cond.instanceMethod yX3_put, Cond.selects RX3 yX3_put yX3_put, Cond.initialized RX3, Cond.code yX3_put cX3_put 7 none, Cond.fieldLink RX3 17 "ColumnDesk$Shelf" "latest" "I", Cond.fieldLink RX3 27 "ColumnDesk$Shelf" "kept" "I", Cond.methodLink RX3 30 Lib.Math.min.name, Cond.static Lib.Math.min.name, Cond.code Lib.Math.min.name Lib.Math.min.code 2 (some .int), Cond.fieldLink RX3 33 "ColumnDesk$Shelf" "everMade" "I", Cond.fieldLink RX3 11 "ColumnDesk$Shelf" "pages" "[LColumnDesk$MadePage;", Cond.classLink RX3 9 RX1, Cond.instantiable RX1 4, Cond.initialized RX1, Cond.methodLink RX3 21 yJ9_floorMod_7cf53, Cond.static yJ9_floorMod_7cf53, Cond.initialized RJ9, Cond.code yJ9_floorMod_7cf53 cJ9_floorMod_7cf53 3 (some .int), Cond.instanceMethod yX1_init, Cond.code yX1_init cX1_init 1 none, Cond.methodLink RX1 3 objectInit]
def wsL_build_r9 : List Cond := [Cond.instanceMethod objectInit, Cond.code objectInit ⟨#[0xb1]⟩ 1 none, Cond.classLink RX1 9 RX0, Cond.instantiable RX0 2, Cond.fieldLink RX1 14 "ColumnDesk$MadePage" "items" "LColumnDesk$Items;", Cond.methodLink RX1 11 yX0_init, Cond.instanceMethod yX0_init, Cond.code yX0_init cX0_init 2 none, Cond.methodLink RX0 3 objectInit, Cond.arrayClass .int, Cond.methodLink RX3 37 yX1_make, Cond.instanceMethod yX1_make, Cond.selects RX1 yX1_make yX1_make, Cond.code yX1_make cX1_make 6 none, Cond.fieldLink RX1 24 "ColumnDesk$MadePage" "height" "I", Cond.fieldLink RX1 34 "ColumnDesk$MadePage" "depth" "I", Cond.fieldLink RX1 39 "ColumnDesk$MadePage" "width" "I", Cond.methodLink RX1 20 yX0_copyFrom, Cond.instanceMethod yX0_copyFrom, Cond.selects RX0 yX0_copyFrom yX0_copyFrom, Cond.code yX0_copyFrom cX0_copyFrom 5 none, Cond.methodLink RX0 30 arraycopyName, Cond.native arraycopyName, Cond.static arraycopyName]
def wsL_build_r10 : List Cond := [Cond.initialized "java/lang/System", Cond.methodLink RX0 19 yX0_makeRoom, Cond.instanceMethod yX0_makeRoom, Cond.selects RX0 yX0_makeRoom yX0_makeRoom, Cond.code yX0_makeRoom cX0_makeRoom 3 none, Cond.methodLink RX0 36 Lib.Math.max.name, Cond.methodLink RX0 42 Lib.Math.min.name, Cond.methodLink RX0 45 yJ7_copyOf_59c91, Cond.static yJ7_copyOf_59c91, Cond.code yJ7_copyOf_59c91 cJ7_copyOf_59c91 3 (some (.array .int)), Cond.methodLink RJ7 316 ⟨"[I", "clone", "()Ljava/lang/Object;"⟩, Cond.sameMethod "[I" "java/lang/Object" "clone" "()Ljava/lang/Object;", Cond.native ⟨"java/lang/Object", "clone", "()Ljava/lang/Object;"⟩, Cond.instanceMethod ⟨"java/lang/Object", "clone", "()Ljava/lang/Object;"⟩, Cond.selects "[I" ⟨"[I", "clone", "()Ljava/lang/Object;"⟩ ⟨"java/lang/Object", "clone", "()Ljava/lang/Object;"⟩, Cond.classLink RJ7 317 "[I", Cond.methodLink RJ7 304 Lib.Math.min.name, Cond.methodLink RJ7 150 arraycopyName, Cond.methodLink RX1 41 yX4_total, Cond.methodLink RX1 45 yX1_setGlue, Cond.instanceMethod yX1_setGlue, Cond.selects RX1 yX1_setGlue yX1_setGlue, Cond.code yX1_setGlue cX1_setGlue 5 none, Cond.methodLink RX1 64 Lib.MathLoose.max_long.x]
def wsL_build_r11 : List Cond := [Cond.methodLink RX1 49 yX4_highestOrder, Cond.methodLink RX1 53 yX4_stretchOf, Cond.methodLink RX1 57 yX1_spread, Cond.instanceMethod yX1_spread, Cond.selects RX1 yX1_spread yX1_spread, Cond.code yX1_spread cX1_spread 13 none, Cond.methodLink RX1 70 yX0_size, Cond.methodLink RX1 73 yX0_at, Cond.methodLink RX1 77 yX1_shareOf, Cond.instanceMethod yX1_shareOf, Cond.selects RX1 yX1_shareOf yX1_shareOf, Cond.code yX1_shareOf cX1_shareOf 3 (some .int), Cond.static yX5_near, Cond.code yX5_near cX5_near 6 (some .long), Cond.constantLong RX5 259 (2), Cond.methodLink RX5 261 Lib.MathLoose.abs_long.x, Cond.static Lib.MathLoose.abs_long.x, Cond.code Lib.MathLoose.abs_long.x Lib.MathLoose.abs_long.code 2 (some .long), Cond.methodLink RX1 83 yX1_within, Cond.static yX1_within, Cond.code yX1_within cX1_within 2 (some .int), Cond.constantLong RX1 91 (-2147483647), Cond.constantLong RX1 93 (2147483647), Cond.methodLink RX1 95 Lib.MathLoose.min_long.x]
def wsL_build_r12 : List Cond := [Cond.methodLink RX1 87 yX0_put, Cond.methodLink RX5 236 yX2_forget, Cond.instanceMethod yX2_forget, Cond.selects RX2 yX2_forget yX2_forget, Cond.code yX2_forget cX2_forget 1 none, Cond.methodLink RX5 98 yX5_loseAll, Cond.instanceMethod yX5_loseAll, Cond.selects RX5 yX5_loseAll yX5_loseAll, Cond.code yX5_loseAll cX5_loseAll 1 none, Cond.methodLink RX5 239 yX3_clear, Cond.instanceMethod yX3_clear, Cond.selects RX3 yX3_clear yX3_clear, Cond.code yX3_clear cX3_clear 1 none, Cond.methodLink RX5 241 yX0_clear, Cond.instanceMethod yX0_clear, Cond.selects RX0 yX0_clear yX0_clear, Cond.code yX0_clear cX0_clear 1 none, Cond.methodLink RX5 39 yX0_append, Cond.instanceMethod yX0_append, Cond.selects RX0 yX0_append yX0_append, Cond.code yX0_append cX0_append 1 (some .int), Cond.methodLink RX5 108 yX5_dropUsed, Cond.instanceMethod yX5_dropUsed, Cond.selects RX5 yX5_dropUsed yX5_dropUsed]
def wsL_build_r13 : List Cond := [Cond.code yX5_dropUsed cX5_dropUsed 2 none, Cond.methodLink RX5 242 yX0_dropFirst, Cond.instanceMethod yX0_dropFirst, Cond.selects RX0 yX0_dropFirst yX0_dropFirst, Cond.code yX0_dropFirst cX0_dropFirst 2 none]
def wsL_build : List Cond := .codeWith yL_build cL_build 3 (some .int) [(0, 8, 11, 13)] :: ((wsL_build_r1 ++ (wsL_build_r2 ++ (wsL_build_r3 ++ (wsL_build_r4 ++ (wsL_build_r5 ++ (wsL_build_r6 ++ (wsL_build_r7 ++ (wsL_build_r8 ++ (wsL_build_r9 ++ (wsL_build_r10 ++ (wsL_build_r11 ++ (wsL_build_r12 ++ wsL_build_r13)))))))))))) ++ wsX50 ++ wsX00 ++ wsX20 ++ wsX40 ++ wsX30 ++ wsX10 ++ (vx_atS RX5 105 "java/lang/UnsupportedOperationException" ["java/lang/RuntimeException", "java/lang/Exception"]).filter goodWord)
def wsL_about_r1 : List Cond := [Cond.classLink RL 19 "java/lang/IndexOutOfBoundsException", Cond.methodLink RL 15 yX5_about, Cond.instanceMethod yX5_about, Cond.selects RX5 yX5_about yX5_about, Cond.initialized RX5, Cond.code yX5_about cX5_about 4 (some .int), Cond.classLink RX5 115 "java/lang/IndexOutOfBoundsException", Cond.initialized "java/lang/IndexOutOfBoundsException", Cond.fieldLink RX5 28 "ColumnDesk" "shelf" "LColumnDesk$Shelf;", Cond.methodLink RX5 111 yX3_madePage, Cond.instanceMethod yX3_madePage, Cond.selects RX3 yX3_madePage yX3_madePage, Cond.initialized RX3, Cond.code yX3_madePage cX3_madePage 2 (some (.object "ColumnDesk$MadePage")), Cond.fieldLink RX3 27 "ColumnDesk$Shelf" "kept" "I", Cond.fieldLink RX3 11 "ColumnDesk$Shelf" "pages" "[LColumnDesk$MadePage;", Cond.fieldLink RX3 17 "ColumnDesk$Shelf" "latest" "I", Cond.methodLink RX3 21 yJ9_floorMod_7cf53, Cond.static yJ9_floorMod_7cf53, Cond.initialized RJ9, Cond.code yJ9_floorMod_7cf53 cJ9_floorMod_7cf53 3 (some .int), Cond.methodLink RX5 89 yX0_size, Cond.instanceMethod yX0_size, Cond.selects RX0 yX0_size yX0_size]
def wsL_about_r2 : List Cond := [Cond.initialized RX0, Cond.code yX0_size cX0_size 1 (some .int), Cond.fieldLink RX0 15 "ColumnDesk$Items" "size" "I"]
def wsL_about : List Cond := .codeWith yL_about cL_about 5 (some .int) [(0, 10, 13, 19)] :: ((wsL_about_r1 ++ wsL_about_r2) ++ wsX50 ++ wsX10 ++ wsX30 ++ wsX00 ++ (vx_atS RX5 119 "java/lang/IndexOutOfBoundsException" ["java/lang/RuntimeException", "java/lang/Exception"]).filter goodWord)
def wsL_item_r1 : List Cond := [Cond.classLink RL 19 "java/lang/IndexOutOfBoundsException", Cond.methodLink RL 21 yX5_item, Cond.instanceMethod yX5_item, Cond.selects RX5 yX5_item yX5_item, Cond.initialized RX5, Cond.code yX5_item cX5_item 5 (some .int), Cond.classLink RX5 115 "java/lang/IndexOutOfBoundsException", Cond.initialized "java/lang/IndexOutOfBoundsException", Cond.fieldLink RX5 28 "ColumnDesk" "shelf" "LColumnDesk$Shelf;", Cond.methodLink RX5 111 yX3_madePage, Cond.instanceMethod yX3_madePage, Cond.selects RX3 yX3_madePage yX3_madePage, Cond.initialized RX3, Cond.code yX3_madePage cX3_madePage 2 (some (.object "ColumnDesk$MadePage")), Cond.fieldLink RX3 27 "ColumnDesk$Shelf" "kept" "I", Cond.fieldLink RX3 11 "ColumnDesk$Shelf" "pages" "[LColumnDesk$MadePage;", Cond.fieldLink RX3 17 "ColumnDesk$Shelf" "latest" "I", Cond.methodLink RX3 21 yJ9_floorMod_7cf53, Cond.static yJ9_floorMod_7cf53, Cond.initialized RJ9, Cond.code yJ9_floorMod_7cf53 cJ9_floorMod_7cf53 3 (some .int), Cond.methodLink RX5 89 yX0_size, Cond.instanceMethod yX0_size, Cond.selects RX0 yX0_size yX0_size]
def wsL_item_r2 : List Cond := [Cond.initialized RX0, Cond.code yX0_size cX0_size 1 (some .int), Cond.fieldLink RX0 15 "ColumnDesk$Items" "size" "I", Cond.methodLink RX5 138 yX0_at, Cond.instanceMethod yX0_at, Cond.selects RX0 yX0_at yX0_at, Cond.code yX0_at cX0_at 4 (some .int), Cond.fieldLink RX0 9 "ColumnDesk$Items" "cells" "[I"]
def wsL_item : List Cond := .codeWith yL_item cL_item 6 (some .int) [(0, 12, 15, 19)] :: ((wsL_item_r1 ++ wsL_item_r2) ++ wsX50 ++ wsX10 ++ wsX30 ++ wsX00 ++ (vx_atS RX5 119 "java/lang/IndexOutOfBoundsException" ["java/lang/RuntimeException", "java/lang/Exception"]).filter goodWord)
def wsL_law0_r1 : List Cond := [Cond.classLink RL 8 RX5, Cond.instantiable RX5 11, Cond.initialized RX5, Cond.classLink RL 26 RX6, Cond.instantiable RX6 32, Cond.initialized RX6, Cond.arrayClass .long, Cond.methodLink RL 25 yX5_init, Cond.instanceMethod yX5_init, Cond.code yX5_init cX5_init 1 none, Cond.methodLink RX5 3 objectInit, Cond.instanceMethod objectInit, Cond.code objectInit ⟨#[0xb1]⟩ 1 none, Cond.classLink RX5 9 RX0, Cond.instantiable RX0 2, Cond.initialized RX0, Cond.fieldLink RX5 14 "ColumnDesk" "column" "LColumnDesk$Items;", Cond.classLink RX5 18 RX2, Cond.instantiable RX2 6, Cond.initialized RX2, Cond.fieldLink RX5 21 "ColumnDesk" "current" "LColumnDesk$Page;", Cond.classLink RX5 25 RX3, Cond.instantiable RX3 4, Cond.initialized RX3]
def wsL_law0_r2 : List Cond := [Cond.fieldLink RX5 28 "ColumnDesk" "shelf" "LColumnDesk$Shelf;", Cond.classLink RX5 32 RX4, Cond.instantiable RX4 6, Cond.initialized RX4, Cond.fieldLink RX5 35 "ColumnDesk" "madeSums" "LColumnDesk$Sums;", Cond.fieldLink RX5 43 "ColumnDesk" "next" "I", Cond.methodLink RX5 11 yX0_init, Cond.instanceMethod yX0_init, Cond.code yX0_init cX0_init 2 none, Cond.methodLink RX0 3 objectInit, Cond.arrayClass .int, Cond.fieldLink RX0 9 "ColumnDesk$Items" "cells" "[I", Cond.instanceMethod yX2_init, Cond.code yX2_init cX2_init 1 none, Cond.methodLink RX2 3 objectInit, Cond.classLink RX2 9 RX4, Cond.fieldLink RX2 12 "ColumnDesk$Page" "sums" "LColumnDesk$Sums;", Cond.fieldLink RX2 18 "ColumnDesk$Page" "best" "I", Cond.instanceMethod yX4_init, Cond.code yX4_init cX4_init 1 none, Cond.methodLink RX4 3 objectInit, Cond.fieldLink RX4 9 "ColumnDesk$Sums" "stretch" "[J", Cond.instanceMethod yX3_init, Cond.code yX3_init cX3_init 1 none]
def wsL_law0_r3 : List Cond := [Cond.methodLink RX3 3 objectInit, Cond.classLink RX3 9 RX1, Cond.fieldLink RX3 11 "ColumnDesk$Shelf" "pages" "[LColumnDesk$MadePage;", Cond.methodLink RX5 39 yX0_append, Cond.instanceMethod yX0_append, Cond.selects RX0 yX0_append yX0_append, Cond.code yX0_append cX0_append 1 (some .int), Cond.fieldLink RX0 15 "ColumnDesk$Items" "size" "I", Cond.methodLink RX0 19 yX0_makeRoom, Cond.instanceMethod yX0_makeRoom, Cond.selects RX0 yX0_makeRoom yX0_makeRoom, Cond.code yX0_makeRoom cX0_makeRoom 3 none, Cond.methodLink RX0 36 Lib.Math.max.name, Cond.static Lib.Math.max.name, Cond.initialized "java/lang/Math", Cond.code Lib.Math.max.name Lib.Math.max.code 2 (some .int), Cond.methodLink RX0 42 Lib.Math.min.name, Cond.static Lib.Math.min.name, Cond.code Lib.Math.min.name Lib.Math.min.code 2 (some .int), Cond.methodLink RX0 45 yJ7_copyOf_59c91, Cond.static yJ7_copyOf_59c91, Cond.initialized RJ7, Cond.code yJ7_copyOf_59c91 cJ7_copyOf_59c91 3 (some (.array .int)), Cond.methodLink RJ7 316 ⟨"[I", "clone", "()Ljava/lang/Object;"⟩]
def wsL_law0_r4 : List Cond := [Cond.sameMethod "[I" "java/lang/Object" "clone" "()Ljava/lang/Object;", Cond.native ⟨"java/lang/Object", "clone", "()Ljava/lang/Object;"⟩, Cond.instanceMethod ⟨"java/lang/Object", "clone", "()Ljava/lang/Object;"⟩, Cond.selects "[I" ⟨"[I", "clone", "()Ljava/lang/Object;"⟩ ⟨"java/lang/Object", "clone", "()Ljava/lang/Object;"⟩, Cond.classLink RJ7 317 "[I", Cond.methodLink RJ7 304 Lib.Math.min.name, Cond.methodLink RJ7 150 arraycopyName, Cond.native arraycopyName, Cond.static arraycopyName, Cond.initialized "java/lang/System", Cond.methodLink RL 28 yX6_init, Cond.instanceMethod yX6_init, Cond.code yX6_init cX6_init 1 none, Cond.methodLink RX6 1 objectInit, Cond.fieldLink RX6 7 "ColumnDeskModel" "kind" "[I", Cond.fieldLink RX6 13 "ColumnDeskModel" "wide" "[I", Cond.fieldLink RX6 16 "ColumnDeskModel" "high" "[I", Cond.fieldLink RX6 19 "ColumnDeskModel" "deep" "[I", Cond.fieldLink RX6 22 "ColumnDeskModel" "shift" "[I", Cond.fieldLink RX6 25 "ColumnDeskModel" "order" "[I", Cond.fieldLink RX6 28 "ColumnDeskModel" "shrink" "[I", Cond.fieldLink RX6 31 "ColumnDeskModel" "more" "[J", Cond.fieldLink RX6 35 "ColumnDeskModel" "items" "[I", Cond.fieldLink RX6 38 "ColumnDeskModel" "heights" "[I"]
def wsL_law0_r5 : List Cond := [Cond.fieldLink RX6 41 "ColumnDeskModel" "depths" "[I", Cond.fieldLink RX6 44 "ColumnDeskModel" "widths" "[I", Cond.fieldLink RX6 47 "ColumnDeskModel" "best" "I", Cond.fieldLink RX6 51 "ColumnDeskModel" "stretches" "[J", Cond.methodLink RL 29 yX5_page, Cond.instanceMethod yX5_page, Cond.selects RX5 yX5_page yX5_page, Cond.code yX5_page cX5_page 3 (some .boolean), Cond.fieldLink RX5 51 "ColumnDesk" "toldHeight" "I", Cond.fieldLink RX5 54 "ColumnDesk" "toldDepth" "I", Cond.methodLink RX5 47 yX5_isSize, Cond.static yX5_isSize, Cond.code yX5_isSize cX5_isSize 2 (some .boolean), Cond.constantLong RX5 245 (-1073741823), Cond.constantLong RX5 247 (1073741823), Cond.methodLink RL 33 yX6_page, Cond.instanceMethod yX6_page, Cond.selects RX6 yX6_page yX6_page, Cond.code yX6_page cX6_page 3 (some .boolean), Cond.fieldLink RX6 54 "ColumnDeskModel" "thrown" "I", Cond.fieldLink RX6 67 "ColumnDeskModel" "height" "I", Cond.fieldLink RX6 70 "ColumnDeskModel" "limit" "I", Cond.methodLink RX6 63 yX6_isSize, Cond.static yX6_isSize]
def wsL_law0_r6 : List Cond := [Cond.code yX6_isSize cX6_isSize 1 (some .boolean), Cond.constant RX6 57 (-1073741823), Cond.constant RX6 58 (1073741823), Cond.methodLink RL 34 yX5_top, Cond.instanceMethod yX5_top, Cond.selects RX5 yX5_top yX5_top, Cond.code yX5_top cX5_top 5 (some .boolean), Cond.fieldLink RX5 61 "ColumnDesk" "topWidth" "I", Cond.fieldLink RX5 64 "ColumnDesk" "topStretch" "I", Cond.fieldLink RX5 67 "ColumnDesk" "topOrder" "I", Cond.fieldLink RX5 70 "ColumnDesk" "topShrink" "I", Cond.methodLink RX5 57 yX5_isGlue, Cond.static yX5_isGlue, Cond.code yX5_isGlue cX5_isGlue 4 (some .boolean), Cond.methodLink RL 38 yX6_top, Cond.instanceMethod yX6_top, Cond.selects RX6 yX6_top yX6_top, Cond.code yX6_top cX6_top 5 (some .boolean), Cond.fieldLink RX6 77 "ColumnDeskModel" "topWidth" "I", Cond.fieldLink RX6 80 "ColumnDeskModel" "topStretch" "I", Cond.fieldLink RX6 83 "ColumnDeskModel" "topOrder" "I", Cond.fieldLink RX6 86 "ColumnDeskModel" "topShrink" "I", Cond.methodLink RX6 73 yX6_isGlue, Cond.static yX6_isGlue]
def wsL_law0_r7 : List Cond := [Cond.code yX6_isGlue cX6_isGlue 4 (some .boolean), Cond.methodLink RL 39 yX5_box, Cond.instanceMethod yX5_box, Cond.selects RX5 yX5_box yX5_box, Cond.code yX5_box cX5_box 5 (some .boolean), Cond.methodLink RX5 73 yX5_addSolid, Cond.instanceMethod yX5_addSolid, Cond.selects RX5 yX5_addSolid yX5_addSolid, Cond.code yX5_addSolid cX5_addSolid 7 (some .boolean), Cond.methodLink RX5 77 yX5_isFull, Cond.instanceMethod yX5_isFull, Cond.selects RX5 yX5_isFull yX5_isFull, Cond.code yX5_isFull cX5_isFull 1 (some .boolean), Cond.methodLink RX5 148 yX5_onPage, Cond.instanceMethod yX5_onPage, Cond.selects RX5 yX5_onPage yX5_onPage, Cond.code yX5_onPage cX5_onPage 1 (some .int), Cond.methodLink RX5 145 yX5_toCome, Cond.instanceMethod yX5_toCome, Cond.selects RX5 yX5_toCome yX5_toCome, Cond.code yX5_toCome cX5_toCome 1 (some .int), Cond.methodLink RX5 89 yX0_size, Cond.instanceMethod yX0_size, Cond.selects RX0 yX0_size yX0_size]
def wsL_law0_r8 : List Cond := [Cond.code yX0_size cX0_size 1 (some .int), Cond.methodLink RX5 182 yX3_held, Cond.instanceMethod yX3_held, Cond.selects RX3 yX3_held yX3_held, Cond.code yX3_held cX3_held 4 (some .int), Cond.fieldLink RX3 27 "ColumnDesk$Shelf" "kept" "I", Cond.methodLink RX3 41 yX3_madePage, Cond.instanceMethod yX3_madePage, Cond.selects RX3 yX3_madePage yX3_madePage, Cond.code yX3_madePage cX3_madePage 2 (some (.object "ColumnDesk$MadePage")), Cond.fieldLink RX3 17 "ColumnDesk$Shelf" "latest" "I", Cond.methodLink RX3 21 yJ9_floorMod_7cf53, Cond.static yJ9_floorMod_7cf53, Cond.initialized RJ9, Cond.code yJ9_floorMod_7cf53 cJ9_floorMod_7cf53 3 (some .int), Cond.methodLink RX3 49 yX0_size, Cond.methodLink RX5 178 yX0_makeSolid, Cond.instanceMethod yX0_makeSolid, Cond.selects RX0 yX0_makeSolid yX0_makeSolid, Cond.code yX0_makeSolid cX0_makeSolid 7 none, Cond.methodLink RX0 27 yX0_makePlain, Cond.instanceMethod yX0_makePlain, Cond.selects RX0 yX0_makePlain yX0_makePlain, Cond.code yX0_makePlain cX0_makePlain 5 none]
def wsL_law0_r9 : List Cond := [Cond.methodLink RX0 23 yX0_put, Cond.instanceMethod yX0_put, Cond.selects RX0 yX0_put yX0_put, Cond.code yX0_put cX0_put 5 none, Cond.methodLink RL 42 yX6_box, Cond.instanceMethod yX6_box, Cond.selects RX6 yX6_box yX6_box, Cond.code yX6_box cX6_box 5 (some .boolean), Cond.methodLink RX6 106 yX6_add, Cond.instanceMethod yX6_add, Cond.selects RX6 yX6_add yX6_add, Cond.code yX6_add cX6_add 9 (some .boolean), Cond.fieldLink RX6 89 "ColumnDeskModel" "coming" "I", Cond.methodLink RX6 98 yX6_all, Cond.instanceMethod yX6_all, Cond.selects RX6 yX6_all yX6_all, Cond.code yX6_all cX6_all 3 (some .int), Cond.fieldLink RX6 92 "ColumnDeskModel" "there" "I", Cond.fieldLink RX6 95 "ColumnDeskModel" "kept" "I", Cond.methodLink RX6 102 yX6_write, Cond.instanceMethod yX6_write, Cond.selects RX6 yX6_write yX6_write, Cond.code yX6_write cX6_write 9 none, Cond.methodLink RL 43 yX5_rule]
def wsL_law0_r10 : List Cond := [Cond.instanceMethod yX5_rule, Cond.selects RX5 yX5_rule yX5_rule, Cond.code yX5_rule cX5_rule 4 (some .boolean), Cond.methodLink RL 47 yX6_rule, Cond.instanceMethod yX6_rule, Cond.selects RX6 yX6_rule yX6_rule, Cond.code yX6_rule cX6_rule 4 (some .boolean), Cond.methodLink RL 48 yX5_glue, Cond.instanceMethod yX5_glue, Cond.selects RX5 yX5_glue yX5_glue, Cond.code yX5_glue cX5_glue 5 (some .boolean), Cond.methodLink RX5 81 yX0_makeGlue, Cond.instanceMethod yX0_makeGlue, Cond.selects RX0 yX0_makeGlue yX0_makeGlue, Cond.code yX0_makeGlue cX0_makeGlue 6 none, Cond.methodLink RL 51 yX6_glue, Cond.instanceMethod yX6_glue, Cond.selects RX6 yX6_glue yX6_glue, Cond.code yX6_glue cX6_glue 5 (some .boolean), Cond.methodLink RL 52 yX5_kern, Cond.instanceMethod yX5_kern, Cond.selects RX5 yX5_kern yX5_kern, Cond.code yX5_kern cX5_kern 2 (some .boolean), Cond.methodLink RX5 85 yX0_makePlain]
def wsL_law0_r11 : List Cond := [Cond.methodLink RL 56 yX6_kern, Cond.instanceMethod yX6_kern, Cond.selects RX6 yX6_kern yX6_kern, Cond.code yX6_kern cX6_kern 2 (some .boolean), Cond.methodLink RL 57 yX5_penalty, Cond.instanceMethod yX5_penalty, Cond.selects RX5 yX5_penalty yX5_penalty, Cond.code yX5_penalty cX5_penalty 2 (some .boolean), Cond.methodLink RL 60 yX6_penalty, Cond.instanceMethod yX6_penalty, Cond.selects RX6 yX6_penalty yX6_penalty, Cond.code yX6_penalty cX6_penalty 2 (some .boolean), Cond.methodLink RL 61 yL_build, Cond.static yL_build, Cond.initialized RL, Cond.codeWith yL_build cL_build 3 (some .int) [(0, 8, 11, 13)], Cond.classLink RL 13 "java/lang/UnsupportedOperationException", Cond.methodLink RL 7 yX5_build, Cond.instanceMethod yX5_build, Cond.selects RX5 yX5_build yX5_build, Cond.code yX5_build cX5_build 4 (some .int), Cond.classLink RX5 101 "java/lang/UnsupportedOperationException", Cond.initialized "java/lang/UnsupportedOperationException", Cond.methodLink RX5 92 yX5_fillPage]
def wsL_law0_r12 : List Cond := [Cond.instanceMethod yX5_fillPage, Cond.selects RX5 yX5_fillPage yX5_fillPage, Cond.code yX5_fillPage cX5_fillPage 4 (some .boolean), Cond.methodLink RX5 138 yX0_at, Cond.instanceMethod yX0_at, Cond.selects RX0 yX0_at yX0_at, Cond.code yX0_at cX0_at 4 (some .int), Cond.methodLink RX5 188 yX5_isSolid, Cond.static yX5_isSolid, Cond.code yX5_isSolid cX5_isSolid 1 (some .boolean), Cond.methodLink RX5 192 yX5_beginPage, Cond.instanceMethod yX5_beginPage, Cond.selects RX5 yX5_beginPage yX5_beginPage, Cond.code yX5_beginPage cX5_beginPage 3 none, Cond.methodLink RX5 205 Lib.Math.max.name, Cond.methodLink RX5 210 yX2_begin, Cond.instanceMethod yX2_begin, Cond.selects RX2 yX2_begin yX2_begin, Cond.code yX2_begin cX2_begin 4 none, Cond.fieldLink RX2 22 "ColumnDesk$Page" "begun" "Z", Cond.fieldLink RX2 26 "ColumnDesk$Page" "first" "I", Cond.fieldLink RX2 29 "ColumnDesk$Page" "goal" "I", Cond.methodLink RX2 32 yX4_clear, Cond.instanceMethod yX4_clear]
def wsL_law0_r13 : List Cond := [Cond.selects RX4 yX4_clear yX4_clear, Cond.code yX4_clear cX4_clear 2 none, Cond.fieldLink RX4 21 "ColumnDesk$Sums" "shrink" "J", Cond.fieldLink RX4 25 "ColumnDesk$Sums" "all" "J", Cond.fieldLink RX4 28 "ColumnDesk$Sums" "depth" "J", Cond.fieldLink RX4 31 "ColumnDesk$Sums" "width" "J", Cond.fieldLink RX4 34 "ColumnDesk$Sums" "limit" "I", Cond.methodLink RX4 15 yJ7_fill_d0a16, Cond.static yJ7_fill_d0a16, Cond.code yJ7_fill_d0a16 cJ7_fill_d0a16 5 none, Cond.methodLink RX5 201 yX4_take, Cond.instanceMethod yX4_take, Cond.selects RX4 yX4_take yX4_take, Cond.code yX4_take cX4_take 3 none, Cond.methodLink RX4 38 yX0_at, Cond.methodLink RX4 44 yX4_takeSolid, Cond.instanceMethod yX4_takeSolid, Cond.selects RX4 yX4_takeSolid yX4_takeSolid, Cond.code yX4_takeSolid cX4_takeSolid 5 none, Cond.methodLink RX4 51 Lib.MathLoose.min_long.x, Cond.static Lib.MathLoose.min_long.x, Cond.code Lib.MathLoose.min_long.x Lib.MathLoose.min_long.code 4 (some .long), Cond.methodLink RX4 57 Lib.MathLoose.max_long.x, Cond.static Lib.MathLoose.max_long.x]
def wsL_law0_r14 : List Cond := [Cond.code Lib.MathLoose.max_long.x Lib.MathLoose.max_long.code 4 (some .long), Cond.methodLink RX4 48 yX4_takeGlue, Cond.instanceMethod yX4_takeGlue, Cond.selects RX4 yX4_takeGlue yX4_takeGlue, Cond.code yX4_takeGlue cX4_takeGlue 4 none, Cond.methodLink RX5 195 yX5_isBreak, Cond.instanceMethod yX5_isBreak, Cond.selects RX5 yX5_isBreak yX5_isBreak, Cond.code yX5_isBreak cX5_isBreak 2 (some .boolean), Cond.methodLink RX5 198 yX5_endsAtBreak, Cond.instanceMethod yX5_endsAtBreak, Cond.selects RX5 yX5_endsAtBreak yX5_endsAtBreak, Cond.code yX5_endsAtBreak cX5_endsAtBreak 3 (some .boolean), Cond.methodLink RX5 213 yX2_weigh, Cond.instanceMethod yX2_weigh, Cond.selects RX2 yX2_weigh yX2_weigh, Cond.code yX2_weigh cX2_weigh 8 (some .boolean), Cond.constantLong RX2 44 (-1), Cond.fieldLink RX2 36 "ColumnDesk$Page" "leastCost" "J", Cond.methodLink RX2 40 yX2_badnessNow, Cond.instanceMethod yX2_badnessNow, Cond.selects RX2 yX2_badnessNow yX2_badnessNow, Cond.code yX2_badnessNow cX2_badnessNow 3 (some .long), Cond.methodLink RX2 54 yX4_total]
def wsL_law0_r15 : List Cond := [Cond.instanceMethod yX4_total, Cond.selects RX4 yX4_total yX4_total, Cond.code yX4_total cX4_total 1 (some .long), Cond.static yX5_badness, Cond.code yX5_badness cX5_badness 6 (some .long), Cond.constantLong RX5 249 (10000), Cond.constantLong RX5 251 (297), Cond.constantLong RX5 253 (1290), Cond.constantLong RX5 255 (131072), Cond.constantLong RX5 257 (262144), Cond.methodLink RX2 64 yX4_highestOrder, Cond.instanceMethod yX4_highestOrder, Cond.selects RX4 yX4_highestOrder yX4_highestOrder, Cond.code yX4_highestOrder cX4_highestOrder 2 (some .int), Cond.methodLink RX2 68 yX4_stretchOf, Cond.instanceMethod yX4_stretchOf, Cond.selects RX4 yX4_stretchOf yX4_stretchOf, Cond.code yX4_stretchOf cX4_stretchOf 2 (some .long), Cond.methodLink RX2 46 yX2_costOf, Cond.static yX2_costOf, Cond.code yX2_costOf cX2_costOf 3 (some .long), Cond.constantLong RX2 72 (10000), Cond.constantLong RX2 74 (100000), Cond.methodLink RX2 50 yX2_hasBest]
def wsL_law0_r16 : List Cond := [Cond.instanceMethod yX2_hasBest, Cond.selects RX2 yX2_hasBest yX2_hasBest, Cond.code yX2_hasBest cX2_hasBest 1 (some .boolean), Cond.methodLink RX5 95 yX5_endPage, Cond.instanceMethod yX5_endPage, Cond.selects RX5 yX5_endPage yX5_endPage, Cond.code yX5_endPage cX5_endPage 4 (some .boolean), Cond.methodLink RX5 151 yX2_hasBest, Cond.methodLink RX5 223 yX4_clear, Cond.methodLink RX5 226 yX4_areSizes, Cond.instanceMethod yX4_areSizes, Cond.selects RX4 yX4_areSizes yX4_areSizes, Cond.code yX4_areSizes cX4_areSizes 2 (some .boolean), Cond.methodLink RX4 64 yX4_total, Cond.methodLink RX5 232 yX3_put, Cond.instanceMethod yX3_put, Cond.selects RX3 yX3_put yX3_put, Cond.code yX3_put cX3_put 7 none, Cond.methodLink RX3 30 Lib.Math.min.name, Cond.fieldLink RX3 33 "ColumnDesk$Shelf" "everMade" "I", Cond.instantiable RX1 4, Cond.initialized RX1, Cond.instanceMethod yX1_init, Cond.code yX1_init cX1_init 1 none]
def wsL_law0_r17 : List Cond := [Cond.methodLink RX1 3 objectInit, Cond.classLink RX1 9 RX0, Cond.fieldLink RX1 14 "ColumnDesk$MadePage" "items" "LColumnDesk$Items;", Cond.methodLink RX1 11 yX0_init, Cond.methodLink RX3 37 yX1_make, Cond.instanceMethod yX1_make, Cond.selects RX1 yX1_make yX1_make, Cond.code yX1_make cX1_make 6 none, Cond.fieldLink RX1 24 "ColumnDesk$MadePage" "height" "I", Cond.fieldLink RX1 34 "ColumnDesk$MadePage" "depth" "I", Cond.fieldLink RX1 39 "ColumnDesk$MadePage" "width" "I", Cond.methodLink RX1 20 yX0_copyFrom, Cond.instanceMethod yX0_copyFrom, Cond.selects RX0 yX0_copyFrom yX0_copyFrom, Cond.code yX0_copyFrom cX0_copyFrom 5 none, Cond.methodLink RX0 30 arraycopyName, Cond.methodLink RX1 41 yX4_total, Cond.methodLink RX1 45 yX1_setGlue, Cond.instanceMethod yX1_setGlue, Cond.selects RX1 yX1_setGlue yX1_setGlue, Cond.code yX1_setGlue cX1_setGlue 5 none, Cond.methodLink RX1 64 Lib.MathLoose.max_long.x, Cond.methodLink RX1 49 yX4_highestOrder, Cond.methodLink RX1 53 yX4_stretchOf]
def wsL_law0_r18 : List Cond := [Cond.methodLink RX1 57 yX1_spread, Cond.instanceMethod yX1_spread, Cond.selects RX1 yX1_spread yX1_spread, Cond.code yX1_spread cX1_spread 13 none, Cond.methodLink RX1 70 yX0_size, Cond.methodLink RX1 73 yX0_at, Cond.methodLink RX1 77 yX1_shareOf, Cond.instanceMethod yX1_shareOf, Cond.selects RX1 yX1_shareOf yX1_shareOf, Cond.code yX1_shareOf cX1_shareOf 3 (some .int), Cond.static yX5_near, Cond.code yX5_near cX5_near 6 (some .long), Cond.constantLong RX5 259 (2), Cond.methodLink RX5 261 Lib.MathLoose.abs_long.x, Cond.static Lib.MathLoose.abs_long.x, Cond.code Lib.MathLoose.abs_long.x Lib.MathLoose.abs_long.code 2 (some .long), Cond.methodLink RX1 83 yX1_within, Cond.static yX1_within, Cond.code yX1_within cX1_within 2 (some .int), Cond.constantLong RX1 91 (-2147483647), Cond.constantLong RX1 93 (2147483647), Cond.methodLink RX1 95 Lib.MathLoose.min_long.x, Cond.methodLink RX1 87 yX0_put, Cond.methodLink RX5 236 yX2_forget]
def wsL_law0_r19 : List Cond := [Cond.instanceMethod yX2_forget, Cond.selects RX2 yX2_forget yX2_forget, Cond.code yX2_forget cX2_forget 1 none, Cond.methodLink RX5 98 yX5_loseAll, Cond.instanceMethod yX5_loseAll, Cond.selects RX5 yX5_loseAll yX5_loseAll, Cond.code yX5_loseAll cX5_loseAll 1 none, Cond.methodLink RX5 239 yX3_clear, Cond.instanceMethod yX3_clear, Cond.selects RX3 yX3_clear yX3_clear, Cond.code yX3_clear cX3_clear 1 none, Cond.methodLink RX5 241 yX0_clear, Cond.instanceMethod yX0_clear, Cond.selects RX0 yX0_clear yX0_clear, Cond.code yX0_clear cX0_clear 1 none, Cond.methodLink RX5 108 yX5_dropUsed, Cond.instanceMethod yX5_dropUsed, Cond.selects RX5 yX5_dropUsed yX5_dropUsed, Cond.code yX5_dropUsed cX5_dropUsed 2 none, Cond.methodLink RX5 242 yX0_dropFirst, Cond.instanceMethod yX0_dropFirst, Cond.selects RX0 yX0_dropFirst yX0_dropFirst, Cond.code yX0_dropFirst cX0_dropFirst 2 none, Cond.methodLink RL 66 yX6_build]
def wsL_law0_r20 : List Cond := [Cond.instanceMethod yX6_build, Cond.selects RX6 yX6_build yX6_build, Cond.code yX6_build cX6_build 2 (some .int), Cond.fieldLink RX6 169 "ColumnDeskModel" "made" "I", Cond.methodLink RX6 127 yX6_isSolid, Cond.instanceMethod yX6_isSolid, Cond.selects RX6 yX6_isSolid yX6_isSolid, Cond.code yX6_isSolid cX6_isSolid 2 (some .boolean), Cond.methodLink RX6 182 yX6_take, Cond.instanceMethod yX6_take, Cond.selects RX6 yX6_take yX6_take, Cond.code yX6_take cX6_take 3 none, Cond.methodLink RX6 110 yX6_move, Cond.instanceMethod yX6_move, Cond.selects RX6 yX6_move yX6_move, Cond.code yX6_move cX6_move 3 none, Cond.methodLink RX6 186 yX6_begin, Cond.instanceMethod yX6_begin, Cond.selects RX6 yX6_begin yX6_begin, Cond.code yX6_begin cX6_begin 3 none, Cond.fieldLink RX6 138 "ColumnDeskModel" "goal" "I", Cond.fieldLink RX6 151 "ColumnDeskModel" "most" "I", Cond.methodLink RX6 189 yX6_come, Cond.instanceMethod yX6_come]
def wsL_law0_r21 : List Cond := [Cond.selects RX6 yX6_come yX6_come, Cond.code yX6_come cX6_come 5 (some .int), Cond.constant RX6 175 (100000), Cond.fieldLink RX6 176 "ColumnDeskModel" "cost" "I", Cond.methodLink RX6 154 yX6_sums, Cond.instanceMethod yX6_sums, Cond.selects RX6 yX6_sums yX6_sums, Cond.code yX6_sums cX6_sums 8 none, Cond.fieldLink RX6 114 "ColumnDeskModel" "total" "J", Cond.fieldLink RX6 118 "ColumnDeskModel" "depth" "J", Cond.fieldLink RX6 121 "ColumnDeskModel" "width" "J", Cond.fieldLink RX6 124 "ColumnDeskModel" "shrinks" "J", Cond.methodLink RX6 172 yX6_weight, Cond.instanceMethod yX6_weight, Cond.selects RX6 yX6_weight yX6_weight, Cond.code yX6_weight cX6_weight 1 (some .int), Cond.methodLink RX6 141 yX6_badness, Cond.static yX6_badness, Cond.code yX6_badness cX6_badness 6 (some .int), Cond.constantLong RX6 130 (297), Cond.constantLong RX6 132 (1290), Cond.constantLong RX6 134 (131072), Cond.constantLong RX6 136 (262144), Cond.methodLink RX6 179 yX6_end]
def wsL_law0_r22 : List Cond := [Cond.instanceMethod yX6_end, Cond.selects RX6 yX6_end yX6_end, Cond.code yX6_end cX6_end 6 (some .boolean), Cond.methodLink RX6 158 yX6_isSizeLong, Cond.static yX6_isSizeLong, Cond.code yX6_isSizeLong cX6_isSizeLong 2 (some .boolean), Cond.constantLong RX6 59 (-1073741823), Cond.constantLong RX6 61 (1073741823), Cond.methodLink RX6 162 yX6_share, Cond.instanceMethod yX6_share, Cond.selects RX6 yX6_share yX6_share, Cond.code yX6_share cX6_share 17 none, Cond.methodLink RX6 147 yX6_near, Cond.static yX6_near, Cond.code yX6_near cX6_near 6 (some .long), Cond.constantLong RX6 145 (2), Cond.methodLink RX6 166 yX6_forget, Cond.instanceMethod yX6_forget, Cond.selects RX6 yX6_forget yX6_forget, Cond.code yX6_forget cX6_forget 4 none, Cond.methodLink RX6 192 yX6_fails, Cond.instanceMethod yX6_fails, Cond.selects RX6 yX6_fails yX6_fails, Cond.code yX6_fails cX6_fails 1 (some .int)]
def wsL_law0_r23 : List Cond := [Cond.methodLink RL 67 yX6_thrown, Cond.instanceMethod yX6_thrown, Cond.selects RX6 yX6_thrown yX6_thrown, Cond.code yX6_thrown cX6_thrown 1 (some .int), Cond.methodLink RL 70 yL_about, Cond.static yL_about, Cond.codeWith yL_about cL_about 5 (some .int) [(0, 10, 13, 19)], Cond.classLink RL 19 "java/lang/IndexOutOfBoundsException", Cond.methodLink RL 15 yX5_about, Cond.instanceMethod yX5_about, Cond.selects RX5 yX5_about yX5_about, Cond.code yX5_about cX5_about 4 (some .int), Cond.classLink RX5 115 "java/lang/IndexOutOfBoundsException", Cond.initialized "java/lang/IndexOutOfBoundsException", Cond.methodLink RX5 111 yX3_madePage, Cond.methodLink RL 73 yX6_about, Cond.instanceMethod yX6_about, Cond.selects RX6 yX6_about yX6_about, Cond.code yX6_about cX6_about 4 (some .int), Cond.methodLink RL 74 yL_item, Cond.static yL_item, Cond.codeWith yL_item cL_item 6 (some .int) [(0, 12, 15, 19)], Cond.methodLink RL 21 yX5_item, Cond.instanceMethod yX5_item]
def wsL_law0_r24 : List Cond := [Cond.selects RX5 yX5_item yX5_item, Cond.code yX5_item cX5_item 5 (some .int), Cond.methodLink RL 77 yX6_item, Cond.instanceMethod yX6_item, Cond.selects RX6 yX6_item yX6_item, Cond.code yX6_item cX6_item 8 (some .int), Cond.constantLong RX6 195 (2147483647), Cond.constantLong RX6 197 (-2147483647), Cond.methodLink RL 78 yX5_count, Cond.instanceMethod yX5_count, Cond.selects RX5 yX5_count yX5_count, Cond.code yX5_count cX5_count 2 (some .int), Cond.methodLink RL 82 yX6_count, Cond.instanceMethod yX6_count, Cond.selects RX6 yX6_count yX6_count, Cond.code yX6_count cX6_count 2 (some .int), Cond.methodLink RL 83 yX5_sum, Cond.instanceMethod yX5_sum, Cond.selects RX5 yX5_sum yX5_sum, Cond.code yX5_sum cX5_sum 2 (some .long), Cond.methodLink RX5 161 yX4_total, Cond.methodLink RX5 171 yX4_stretchOf, Cond.methodLink RL 87 yX6_sum, Cond.instanceMethod yX6_sum]
def wsL_law0_r25 : List Cond := [Cond.selects RX6 yX6_sum yX6_sum, Cond.code yX6_sum cX6_sum 2 (some .long)]
def wsL_law0 : List Cond := (wsL_law0_r1 ++ (wsL_law0_r2 ++ (wsL_law0_r3 ++ (wsL_law0_r4 ++ (wsL_law0_r5 ++ (wsL_law0_r6 ++ (wsL_law0_r7 ++ (wsL_law0_r8 ++ (wsL_law0_r9 ++ (wsL_law0_r10 ++ (wsL_law0_r11 ++ (wsL_law0_r12 ++ (wsL_law0_r13 ++ (wsL_law0_r14 ++ (wsL_law0_r15 ++ (wsL_law0_r16 ++ (wsL_law0_r17 ++ (wsL_law0_r18 ++ (wsL_law0_r19 ++ (wsL_law0_r20 ++ (wsL_law0_r21 ++ (wsL_law0_r22 ++ (wsL_law0_r23 ++ (wsL_law0_r24 ++ wsL_law0_r25)))))))))))))))))))))))) ++ wsX50 ++ wsX60 ++ wsX00 ++ wsX20 ++ wsX30 ++ wsX40 ++ wsX10 ++ ([] : List Cond)
def wsL_law : List Cond := wsL_law0 ++ (vx_atS RX5 105 "java/lang/UnsupportedOperationException" ["java/lang/RuntimeException", "java/lang/Exception"]).filter goodWord ++ (vx_atS RX5 119 "java/lang/IndexOutOfBoundsException" ["java/lang/RuntimeException", "java/lang/Exception"]).filter goodWord
theorem inlX0 : ∀ w ∈ wsX00, w ∈ wsL_law := fun _ h => List.mem_append_left _ (List.mem_append_left _ (List.mem_append_left _ (List.mem_append_left _ (List.mem_append_left _ (List.mem_append_left _ (List.mem_append_left _ (List.mem_append_right _ h)))))))
theorem inlX1 : ∀ w ∈ wsX10, w ∈ wsL_law := fun _ h => List.mem_append_left _ (List.mem_append_left _ (List.mem_append_left _ (List.mem_append_right _ h)))
theorem inlX2 : ∀ w ∈ wsX20, w ∈ wsL_law := fun _ h => List.mem_append_left _ (List.mem_append_left _ (List.mem_append_left _ (List.mem_append_left _ (List.mem_append_left _ (List.mem_append_left _ (List.mem_append_right _ h))))))
theorem inlX3 : ∀ w ∈ wsX30, w ∈ wsL_law := fun _ h => List.mem_append_left _ (List.mem_append_left _ (List.mem_append_left _ (List.mem_append_left _ (List.mem_append_left _ (List.mem_append_right _ h)))))
theorem inlX4 : ∀ w ∈ wsX40, w ∈ wsL_law := fun _ h => List.mem_append_left _ (List.mem_append_left _ (List.mem_append_left _ (List.mem_append_left _ (List.mem_append_right _ h))))
theorem inlX5 : ∀ w ∈ wsX50, w ∈ wsL_law := fun _ h => List.mem_append_left _ (List.mem_append_left _ (List.mem_append_left _ (List.mem_append_left _ (List.mem_append_left _ (List.mem_append_left _ (List.mem_append_left _ (List.mem_append_left _ (List.mem_append_left _ (List.mem_append_right _ h)))))))))
theorem inlX6 : ∀ w ∈ wsX60, w ∈ wsL_law := fun _ h => List.mem_append_left _ (List.mem_append_left _ (List.mem_append_left _ (List.mem_append_left _ (List.mem_append_left _ (List.mem_append_left _ (List.mem_append_left _ (List.mem_append_left _ (List.mem_append_right _ h))))))))
end
section
theorem dX0_init_0 : decode cX0_init 0 = .ok (.aload_n 0, 1) := by decide +kernel
theorem dX0_init_1 : decode cX0_init 1 = .ok (.invokespecial 3, 3) := by decide +kernel
theorem dX0_init_4 : decode cX0_init 4 = .ok (.aload_n 0, 1) := by decide +kernel
theorem dX0_init_5 : decode cX0_init 5 = .ok (.iload_n 1, 1) := by decide +kernel
theorem dX0_init_6 : decode cX0_init 6 = .ok (.ifCond .le 10, 3) := by decide +kernel
theorem dX0_init_9 : decode cX0_init 9 = .ok (.iload_n 1, 1) := by decide +kernel
theorem dX0_init_10 : decode cX0_init 10 = .ok (.bipush 8, 2) := by decide +kernel
theorem dX0_init_12 : decode cX0_init 12 = .ok (.imul, 1) := by decide +kernel
theorem dX0_init_13 : decode cX0_init 13 = .ok (.goto 5, 3) := by decide +kernel
theorem dX0_init_16 : decode cX0_init 16 = .ok (.bipush 8, 2) := by decide +kernel
theorem dX0_init_18 : decode cX0_init 18 = .ok (.newarray .int, 2) := by decide +kernel
theorem dX0_init_20 : decode cX0_init 20 = .ok (.putfield 9, 3) := by decide +kernel
theorem dX0_init_23 : decode cX0_init 23 = .ok (.return_, 1) := by decide +kernel
theorem dX0_size_0 : decode cX0_size 0 = .ok (.aload_n 0, 1) := by decide +kernel
theorem dX0_size_1 : decode cX0_size 1 = .ok (.getfield 15, 3) := by decide +kernel
theorem dX0_size_4 : decode cX0_size 4 = .ok (.ireturn, 1) := by decide +kernel
theorem dX0_at_0 : decode cX0_at 0 = .ok (.iload_n 1, 1) := by decide +kernel
theorem dX0_at_1 : decode cX0_at 1 = .ok (.bipush 8, 2) := by decide +kernel
theorem dX0_at_3 : decode cX0_at 3 = .ok (.imul, 1) := by decide +kernel
theorem dX0_at_4 : decode cX0_at 4 = .ok (.iload_n 2, 1) := by decide +kernel
theorem dX0_at_5 : decode cX0_at 5 = .ok (.iadd, 1) := by decide +kernel
theorem dX0_at_6 : decode cX0_at 6 = .ok (.istore_n 3, 1) := by decide +kernel
theorem dX0_at_7 : decode cX0_at 7 = .ok (.iload_n 1, 1) := by decide +kernel
theorem dX0_at_8 : decode cX0_at 8 = .ok (.ifCond .lt 33, 3) := by decide +kernel
theorem dX0_at_11 : decode cX0_at 11 = .ok (.iload_n 1, 1) := by decide +kernel
theorem dX0_at_12 : decode cX0_at 12 = .ok (.aload_n 0, 1) := by decide +kernel
theorem dX0_at_13 : decode cX0_at 13 = .ok (.getfield 15, 3) := by decide +kernel
theorem dX0_at_16 : decode cX0_at 16 = .ok (.if_icmp .ge 25, 3) := by decide +kernel
theorem dX0_at_19 : decode cX0_at 19 = .ok (.iload_n 3, 1) := by decide +kernel
theorem dX0_at_20 : decode cX0_at 20 = .ok (.ifCond .lt 21, 3) := by decide +kernel
theorem dX0_at_23 : decode cX0_at 23 = .ok (.iload_n 3, 1) := by decide +kernel
theorem dX0_at_24 : decode cX0_at 24 = .ok (.aload_n 0, 1) := by decide +kernel
theorem dX0_at_25 : decode cX0_at 25 = .ok (.getfield 9, 3) := by decide +kernel
theorem dX0_at_28 : decode cX0_at 28 = .ok (.arraylength, 1) := by decide +kernel
theorem dX0_at_29 : decode cX0_at 29 = .ok (.if_icmp .ge 12, 3) := by decide +kernel
theorem dX0_at_32 : decode cX0_at 32 = .ok (.aload_n 0, 1) := by decide +kernel
theorem dX0_at_33 : decode cX0_at 33 = .ok (.getfield 9, 3) := by decide +kernel
theorem dX0_at_36 : decode cX0_at 36 = .ok (.iload_n 3, 1) := by decide +kernel
theorem dX0_at_37 : decode cX0_at 37 = .ok (.iaload, 1) := by decide +kernel
theorem dX0_at_38 : decode cX0_at 38 = .ok (.goto 4, 3) := by decide +kernel
theorem dX0_at_41 : decode cX0_at 41 = .ok (.iconst 0, 1) := by decide +kernel
theorem dX0_at_42 : decode cX0_at 42 = .ok (.ireturn, 1) := by decide +kernel
theorem dX0_put_0 : decode cX0_put 0 = .ok (.iload_n 1, 1) := by decide +kernel
theorem dX0_put_1 : decode cX0_put 1 = .ok (.bipush 8, 2) := by decide +kernel
theorem dX0_put_3 : decode cX0_put 3 = .ok (.imul, 1) := by decide +kernel
theorem dX0_put_4 : decode cX0_put 4 = .ok (.iload_n 2, 1) := by decide +kernel
theorem dX0_put_5 : decode cX0_put 5 = .ok (.iadd, 1) := by decide +kernel
theorem dX0_put_6 : decode cX0_put 6 = .ok (.istore 4, 2) := by decide +kernel
theorem dX0_put_8 : decode cX0_put 8 = .ok (.iload_n 1, 1) := by decide +kernel
theorem dX0_put_9 : decode cX0_put 9 = .ok (.ifCond .lt 34, 3) := by decide +kernel
theorem dX0_put_12 : decode cX0_put 12 = .ok (.iload_n 1, 1) := by decide +kernel
theorem dX0_put_13 : decode cX0_put 13 = .ok (.aload_n 0, 1) := by decide +kernel
theorem dX0_put_14 : decode cX0_put 14 = .ok (.getfield 15, 3) := by decide +kernel
theorem dX0_put_17 : decode cX0_put 17 = .ok (.if_icmp .ge 26, 3) := by decide +kernel
theorem dX0_put_20 : decode cX0_put 20 = .ok (.iload 4, 2) := by decide +kernel
theorem dX0_put_22 : decode cX0_put 22 = .ok (.ifCond .lt 21, 3) := by decide +kernel
theorem dX0_put_25 : decode cX0_put 25 = .ok (.iload 4, 2) := by decide +kernel
theorem dX0_put_27 : decode cX0_put 27 = .ok (.aload_n 0, 1) := by decide +kernel
theorem dX0_put_28 : decode cX0_put 28 = .ok (.getfield 9, 3) := by decide +kernel
theorem dX0_put_31 : decode cX0_put 31 = .ok (.arraylength, 1) := by decide +kernel
theorem dX0_put_32 : decode cX0_put 32 = .ok (.if_icmp .ge 11, 3) := by decide +kernel
theorem dX0_put_35 : decode cX0_put 35 = .ok (.aload_n 0, 1) := by decide +kernel
theorem dX0_put_36 : decode cX0_put 36 = .ok (.getfield 9, 3) := by decide +kernel
theorem dX0_put_39 : decode cX0_put 39 = .ok (.iload 4, 2) := by decide +kernel
theorem dX0_put_41 : decode cX0_put 41 = .ok (.iload_n 3, 1) := by decide +kernel
theorem dX0_put_42 : decode cX0_put 42 = .ok (.iastore, 1) := by decide +kernel
theorem dX0_put_43 : decode cX0_put 43 = .ok (.return_, 1) := by decide +kernel
set_option maxRecDepth 20000 in
theorem ggX0_append_X0_makeRoom : GoodIn wsX0_append wsX0_makeRoom := goodIn_r _ [7, 2, 8, 9, 10, 11, 12, 13, 14, 15, 16, 17, 18, 19, 20, 21, 22, 23, 24, 25, 26, 27, 28, 29, 30, 31, 32] (by decide +kernel) (by decide +kernel)
set_option maxRecDepth 20000 in
theorem gX0_append_X0_makeRoom : GoodIn wsX0_append (wsV RX0 19 RX0 yX0_makeRoom wsX0_makeRoom) := goodIn_app (goodIn_of _ (by decide +kernel)) ggX0_append_X0_makeRoom
theorem dX0_append_0 : decode cX0_append 0 = .ok (.aload_n 0, 1) := by decide +kernel
theorem dX0_append_1 : decode cX0_append 1 = .ok (.aload_n 0, 1) := by decide +kernel
theorem dX0_append_2 : decode cX0_append 2 = .ok (.getfield 15, 3) := by decide +kernel
theorem dX0_append_5 : decode cX0_append 5 = .ok (.iconst 1, 1) := by decide +kernel
theorem dX0_append_6 : decode cX0_append 6 = .ok (.iadd, 1) := by decide +kernel
theorem dX0_append_7 : decode cX0_append 7 = .ok (.invokevirtual 19, 3) := by decide +kernel
theorem dX0_append_10 : decode cX0_append 10 = .ok (.aload_n 0, 1) := by decide +kernel
theorem dX0_append_11 : decode cX0_append 11 = .ok (.getfield 15, 3) := by decide +kernel
theorem dX0_append_14 : decode cX0_append 14 = .ok (.iconst 1, 1) := by decide +kernel
theorem dX0_append_15 : decode cX0_append 15 = .ok (.iadd, 1) := by decide +kernel
theorem dX0_append_16 : decode cX0_append 16 = .ok (.bipush 8, 2) := by decide +kernel
theorem dX0_append_18 : decode cX0_append 18 = .ok (.imul, 1) := by decide +kernel
theorem dX0_append_19 : decode cX0_append 19 = .ok (.aload_n 0, 1) := by decide +kernel
theorem dX0_append_20 : decode cX0_append 20 = .ok (.getfield 9, 3) := by decide +kernel
theorem dX0_append_23 : decode cX0_append 23 = .ok (.arraylength, 1) := by decide +kernel
theorem dX0_append_24 : decode cX0_append 24 = .ok (.if_icmp .gt 13, 3) := by decide +kernel
theorem dX0_append_27 : decode cX0_append 27 = .ok (.aload_n 0, 1) := by decide +kernel
theorem dX0_append_28 : decode cX0_append 28 = .ok (.dup, 1) := by decide +kernel
theorem dX0_append_29 : decode cX0_append 29 = .ok (.getfield 15, 3) := by decide +kernel
theorem dX0_append_32 : decode cX0_append 32 = .ok (.iconst 1, 1) := by decide +kernel
theorem dX0_append_33 : decode cX0_append 33 = .ok (.iadd, 1) := by decide +kernel
theorem dX0_append_34 : decode cX0_append 34 = .ok (.putfield 15, 3) := by decide +kernel
theorem dX0_append_37 : decode cX0_append 37 = .ok (.aload_n 0, 1) := by decide +kernel
theorem dX0_append_38 : decode cX0_append 38 = .ok (.getfield 15, 3) := by decide +kernel
theorem dX0_append_41 : decode cX0_append 41 = .ok (.iconst 1, 1) := by decide +kernel
theorem dX0_append_42 : decode cX0_append 42 = .ok (.isub, 1) := by decide +kernel
theorem dX0_append_43 : decode cX0_append 43 = .ok (.ireturn, 1) := by decide +kernel
set_option maxRecDepth 20000 in
theorem ggX0_makePlain_X0_put : GoodIn wsX0_makePlain wsX0_put := goodIn_r _ [5, 6, 7, 8, 9] (by decide +kernel) (by decide +kernel)
set_option maxRecDepth 20000 in
theorem gX0_makePlain_X0_put : GoodIn wsX0_makePlain (wsV RX0 23 RX0 yX0_put wsX0_put) := goodIn_app (goodIn_of _ (by decide +kernel)) ggX0_makePlain_X0_put
theorem dX0_makePlain_0 : decode cX0_makePlain 0 = .ok (.iconst 0, 1) := by decide +kernel
theorem dX0_makePlain_1 : decode cX0_makePlain 1 = .ok (.istore 4, 2) := by decide +kernel
theorem dX0_makePlain_3 : decode cX0_makePlain 3 = .ok (.iload 4, 2) := by decide +kernel
theorem dX0_makePlain_5 : decode cX0_makePlain 5 = .ok (.bipush 8, 2) := by decide +kernel
theorem dX0_makePlain_7 : decode cX0_makePlain 7 = .ok (.if_icmp .ge 17, 3) := by decide +kernel
theorem dX0_makePlain_10 : decode cX0_makePlain 10 = .ok (.aload_n 0, 1) := by decide +kernel
theorem dX0_makePlain_11 : decode cX0_makePlain 11 = .ok (.iload_n 1, 1) := by decide +kernel
theorem dX0_makePlain_12 : decode cX0_makePlain 12 = .ok (.iload 4, 2) := by decide +kernel
theorem dX0_makePlain_14 : decode cX0_makePlain 14 = .ok (.iconst 0, 1) := by decide +kernel
theorem dX0_makePlain_15 : decode cX0_makePlain 15 = .ok (.invokevirtual 23, 3) := by decide +kernel
theorem dX0_makePlain_18 : decode cX0_makePlain 18 = .ok (.iinc 4 1, 3) := by decide +kernel
theorem dX0_makePlain_21 : decode cX0_makePlain 21 = .ok (.goto (-18), 3) := by decide +kernel
theorem dX0_makePlain_24 : decode cX0_makePlain 24 = .ok (.aload_n 0, 1) := by decide +kernel
theorem dX0_makePlain_25 : decode cX0_makePlain 25 = .ok (.iload_n 1, 1) := by decide +kernel
theorem dX0_makePlain_26 : decode cX0_makePlain 26 = .ok (.iconst 0, 1) := by decide +kernel
theorem dX0_makePlain_27 : decode cX0_makePlain 27 = .ok (.iload_n 2, 1) := by decide +kernel
theorem dX0_makePlain_28 : decode cX0_makePlain 28 = .ok (.invokevirtual 23, 3) := by decide +kernel
theorem dX0_makePlain_31 : decode cX0_makePlain 31 = .ok (.aload_n 0, 1) := by decide +kernel
theorem dX0_makePlain_32 : decode cX0_makePlain 32 = .ok (.iload_n 1, 1) := by decide +kernel
theorem dX0_makePlain_33 : decode cX0_makePlain 33 = .ok (.iconst 1, 1) := by decide +kernel
theorem dX0_makePlain_34 : decode cX0_makePlain 34 = .ok (.iload_n 3, 1) := by decide +kernel
theorem dX0_makePlain_35 : decode cX0_makePlain 35 = .ok (.invokevirtual 23, 3) := by decide +kernel
theorem dX0_makePlain_38 : decode cX0_makePlain 38 = .ok (.return_, 1) := by decide +kernel
set_option maxRecDepth 20000 in
theorem ggX0_makeSolid_X0_makePlain : GoodIn wsX0_makeSolid wsX0_makePlain := goodIn_r _ [5, 6, 7, 8, 4, 9, 10, 11, 12, 13] (by decide +kernel) (by decide +kernel)
set_option maxRecDepth 20000 in
theorem gX0_makeSolid_X0_makePlain : GoodIn wsX0_makeSolid (wsV RX0 27 RX0 yX0_makePlain wsX0_makePlain) := goodIn_app (goodIn_of _ (by decide +kernel)) ggX0_makeSolid_X0_makePlain
set_option maxRecDepth 20000 in
theorem ggX0_makeSolid_X0_put : GoodIn wsX0_makeSolid wsX0_put := goodIn_r _ [9, 10, 11, 12, 13] (by decide +kernel) (by decide +kernel)
set_option maxRecDepth 20000 in
theorem gX0_makeSolid_X0_put : GoodIn wsX0_makeSolid (wsV RX0 23 RX0 yX0_put wsX0_put) := goodIn_app (goodIn_of _ (by decide +kernel)) ggX0_makeSolid_X0_put
theorem dX0_makeSolid_0 : decode cX0_makeSolid 0 = .ok (.aload_n 0, 1) := by decide +kernel
theorem dX0_makeSolid_1 : decode cX0_makeSolid 1 = .ok (.iload_n 1, 1) := by decide +kernel
theorem dX0_makeSolid_2 : decode cX0_makeSolid 2 = .ok (.iload_n 2, 1) := by decide +kernel
theorem dX0_makeSolid_3 : decode cX0_makeSolid 3 = .ok (.iload_n 3, 1) := by decide +kernel
theorem dX0_makeSolid_4 : decode cX0_makeSolid 4 = .ok (.invokevirtual 27, 3) := by decide +kernel
theorem dX0_makeSolid_7 : decode cX0_makeSolid 7 = .ok (.aload_n 0, 1) := by decide +kernel
theorem dX0_makeSolid_8 : decode cX0_makeSolid 8 = .ok (.iload_n 1, 1) := by decide +kernel
theorem dX0_makeSolid_9 : decode cX0_makeSolid 9 = .ok (.iconst 2, 1) := by decide +kernel
theorem dX0_makeSolid_10 : decode cX0_makeSolid 10 = .ok (.iload 4, 2) := by decide +kernel
theorem dX0_makeSolid_12 : decode cX0_makeSolid 12 = .ok (.invokevirtual 23, 3) := by decide +kernel
theorem dX0_makeSolid_15 : decode cX0_makeSolid 15 = .ok (.aload_n 0, 1) := by decide +kernel
theorem dX0_makeSolid_16 : decode cX0_makeSolid 16 = .ok (.iload_n 1, 1) := by decide +kernel
theorem dX0_makeSolid_17 : decode cX0_makeSolid 17 = .ok (.iconst 3, 1) := by decide +kernel
theorem dX0_makeSolid_18 : decode cX0_makeSolid 18 = .ok (.iload 5, 2) := by decide +kernel
theorem dX0_makeSolid_20 : decode cX0_makeSolid 20 = .ok (.invokevirtual 23, 3) := by decide +kernel
theorem dX0_makeSolid_23 : decode cX0_makeSolid 23 = .ok (.aload_n 0, 1) := by decide +kernel
theorem dX0_makeSolid_24 : decode cX0_makeSolid 24 = .ok (.iload_n 1, 1) := by decide +kernel
theorem dX0_makeSolid_25 : decode cX0_makeSolid 25 = .ok (.iconst 4, 1) := by decide +kernel
theorem dX0_makeSolid_26 : decode cX0_makeSolid 26 = .ok (.iload 6, 2) := by decide +kernel
theorem dX0_makeSolid_28 : decode cX0_makeSolid 28 = .ok (.invokevirtual 23, 3) := by decide +kernel
theorem dX0_makeSolid_31 : decode cX0_makeSolid 31 = .ok (.return_, 1) := by decide +kernel
set_option maxRecDepth 20000 in
theorem ggX0_makeGlue_X0_makePlain : GoodIn wsX0_makeGlue wsX0_makePlain := goodIn_r _ [5, 6, 7, 8, 4, 9, 10, 11, 12, 13] (by decide +kernel) (by decide +kernel)
set_option maxRecDepth 20000 in
theorem gX0_makeGlue_X0_makePlain : GoodIn wsX0_makeGlue (wsV RX0 27 RX0 yX0_makePlain wsX0_makePlain) := goodIn_app (goodIn_of _ (by decide +kernel)) ggX0_makeGlue_X0_makePlain
set_option maxRecDepth 20000 in
theorem ggX0_makeGlue_X0_put : GoodIn wsX0_makeGlue wsX0_put := goodIn_r _ [9, 10, 11, 12, 13] (by decide +kernel) (by decide +kernel)
set_option maxRecDepth 20000 in
theorem gX0_makeGlue_X0_put : GoodIn wsX0_makeGlue (wsV RX0 23 RX0 yX0_put wsX0_put) := goodIn_app (goodIn_of _ (by decide +kernel)) ggX0_makeGlue_X0_put
theorem dX0_makeGlue_0 : decode cX0_makeGlue 0 = .ok (.aload_n 0, 1) := by decide +kernel
theorem dX0_makeGlue_1 : decode cX0_makeGlue 1 = .ok (.iload_n 1, 1) := by decide +kernel
theorem dX0_makeGlue_2 : decode cX0_makeGlue 2 = .ok (.iconst 5, 1) := by decide +kernel
theorem dX0_makeGlue_3 : decode cX0_makeGlue 3 = .ok (.iload_n 2, 1) := by decide +kernel
theorem dX0_makeGlue_4 : decode cX0_makeGlue 4 = .ok (.invokevirtual 27, 3) := by decide +kernel
theorem dX0_makeGlue_7 : decode cX0_makeGlue 7 = .ok (.aload_n 0, 1) := by decide +kernel
theorem dX0_makeGlue_8 : decode cX0_makeGlue 8 = .ok (.iload_n 1, 1) := by decide +kernel
theorem dX0_makeGlue_9 : decode cX0_makeGlue 9 = .ok (.iconst 5, 1) := by decide +kernel
theorem dX0_makeGlue_10 : decode cX0_makeGlue 10 = .ok (.iload_n 3, 1) := by decide +kernel
theorem dX0_makeGlue_11 : decode cX0_makeGlue 11 = .ok (.invokevirtual 23, 3) := by decide +kernel
theorem dX0_makeGlue_14 : decode cX0_makeGlue 14 = .ok (.aload_n 0, 1) := by decide +kernel
theorem dX0_makeGlue_15 : decode cX0_makeGlue 15 = .ok (.iload_n 1, 1) := by decide +kernel
theorem dX0_makeGlue_16 : decode cX0_makeGlue 16 = .ok (.bipush 6, 2) := by decide +kernel
theorem dX0_makeGlue_18 : decode cX0_makeGlue 18 = .ok (.iload 4, 2) := by decide +kernel
theorem dX0_makeGlue_20 : decode cX0_makeGlue 20 = .ok (.invokevirtual 23, 3) := by decide +kernel
theorem dX0_makeGlue_23 : decode cX0_makeGlue 23 = .ok (.aload_n 0, 1) := by decide +kernel
theorem dX0_makeGlue_24 : decode cX0_makeGlue 24 = .ok (.iload_n 1, 1) := by decide +kernel
theorem dX0_makeGlue_25 : decode cX0_makeGlue 25 = .ok (.bipush 7, 2) := by decide +kernel
theorem dX0_makeGlue_27 : decode cX0_makeGlue 27 = .ok (.iload 5, 2) := by decide +kernel
theorem dX0_makeGlue_29 : decode cX0_makeGlue 29 = .ok (.invokevirtual 23, 3) := by decide +kernel
theorem dX0_makeGlue_32 : decode cX0_makeGlue 32 = .ok (.return_, 1) := by decide +kernel
set_option maxRecDepth 20000 in
theorem ggX0_copyFrom_X0_makeRoom : GoodIn wsX0_copyFrom wsX0_makeRoom := goodIn_r _ [11, 2, 12, 13, 14, 15, 16, 17, 18, 19, 20, 21, 22, 23, 24, 25, 26, 27, 28, 29, 30, 31, 4, 5, 6, 32, 33] (by decide +kernel) (by decide +kernel)
set_option maxRecDepth 20000 in
theorem gX0_copyFrom_X0_makeRoom : GoodIn wsX0_copyFrom (wsV RX0 19 RX0 yX0_makeRoom wsX0_makeRoom) := goodIn_app (goodIn_of _ (by decide +kernel)) ggX0_copyFrom_X0_makeRoom
theorem dX0_copyFrom_0 : decode cX0_copyFrom 0 = .ok (.aload_n 0, 1) := by decide +kernel
theorem dX0_copyFrom_1 : decode cX0_copyFrom 1 = .ok (.iconst 0, 1) := by decide +kernel
theorem dX0_copyFrom_2 : decode cX0_copyFrom 2 = .ok (.putfield 15, 3) := by decide +kernel
theorem dX0_copyFrom_5 : decode cX0_copyFrom 5 = .ok (.iload_n 2, 1) := by decide +kernel
theorem dX0_copyFrom_6 : decode cX0_copyFrom 6 = .ok (.ifCond .lt 16, 3) := by decide +kernel
theorem dX0_copyFrom_9 : decode cX0_copyFrom 9 = .ok (.iload_n 3, 1) := by decide +kernel
theorem dX0_copyFrom_10 : decode cX0_copyFrom 10 = .ok (.aload_n 1, 1) := by decide +kernel
theorem dX0_copyFrom_11 : decode cX0_copyFrom 11 = .ok (.getfield 15, 3) := by decide +kernel
theorem dX0_copyFrom_14 : decode cX0_copyFrom 14 = .ok (.if_icmp .gt 8, 3) := by decide +kernel
theorem dX0_copyFrom_17 : decode cX0_copyFrom 17 = .ok (.iload_n 2, 1) := by decide +kernel
theorem dX0_copyFrom_18 : decode cX0_copyFrom 18 = .ok (.iload_n 3, 1) := by decide +kernel
theorem dX0_copyFrom_19 : decode cX0_copyFrom 19 = .ok (.if_icmp .le 4, 3) := by decide +kernel
theorem dX0_copyFrom_22 : decode cX0_copyFrom 22 = .ok (.return_, 1) := by decide +kernel
theorem dX0_copyFrom_23 : decode cX0_copyFrom 23 = .ok (.iload_n 3, 1) := by decide +kernel
theorem dX0_copyFrom_24 : decode cX0_copyFrom 24 = .ok (.iload_n 2, 1) := by decide +kernel
theorem dX0_copyFrom_25 : decode cX0_copyFrom 25 = .ok (.isub, 1) := by decide +kernel
theorem dX0_copyFrom_26 : decode cX0_copyFrom 26 = .ok (.istore 4, 2) := by decide +kernel
theorem dX0_copyFrom_28 : decode cX0_copyFrom 28 = .ok (.aload_n 0, 1) := by decide +kernel
theorem dX0_copyFrom_29 : decode cX0_copyFrom 29 = .ok (.iload 4, 2) := by decide +kernel
theorem dX0_copyFrom_31 : decode cX0_copyFrom 31 = .ok (.invokevirtual 19, 3) := by decide +kernel
theorem dX0_copyFrom_34 : decode cX0_copyFrom 34 = .ok (.iload 4, 2) := by decide +kernel
theorem dX0_copyFrom_36 : decode cX0_copyFrom 36 = .ok (.bipush 8, 2) := by decide +kernel
theorem dX0_copyFrom_38 : decode cX0_copyFrom 38 = .ok (.imul, 1) := by decide +kernel
theorem dX0_copyFrom_39 : decode cX0_copyFrom 39 = .ok (.aload_n 0, 1) := by decide +kernel
theorem dX0_copyFrom_40 : decode cX0_copyFrom 40 = .ok (.getfield 9, 3) := by decide +kernel
theorem dX0_copyFrom_43 : decode cX0_copyFrom 43 = .ok (.arraylength, 1) := by decide +kernel
theorem dX0_copyFrom_44 : decode cX0_copyFrom 44 = .ok (.if_icmp .gt 30, 3) := by decide +kernel
theorem dX0_copyFrom_47 : decode cX0_copyFrom 47 = .ok (.aload_n 1, 1) := by decide +kernel
theorem dX0_copyFrom_48 : decode cX0_copyFrom 48 = .ok (.getfield 9, 3) := by decide +kernel
theorem dX0_copyFrom_51 : decode cX0_copyFrom 51 = .ok (.iload_n 2, 1) := by decide +kernel
theorem dX0_copyFrom_52 : decode cX0_copyFrom 52 = .ok (.bipush 8, 2) := by decide +kernel
theorem dX0_copyFrom_54 : decode cX0_copyFrom 54 = .ok (.imul, 1) := by decide +kernel
theorem dX0_copyFrom_55 : decode cX0_copyFrom 55 = .ok (.aload_n 0, 1) := by decide +kernel
theorem dX0_copyFrom_56 : decode cX0_copyFrom 56 = .ok (.getfield 9, 3) := by decide +kernel
theorem dX0_copyFrom_59 : decode cX0_copyFrom 59 = .ok (.iconst 0, 1) := by decide +kernel
theorem dX0_copyFrom_60 : decode cX0_copyFrom 60 = .ok (.iload 4, 2) := by decide +kernel
theorem dX0_copyFrom_62 : decode cX0_copyFrom 62 = .ok (.bipush 8, 2) := by decide +kernel
theorem dX0_copyFrom_64 : decode cX0_copyFrom 64 = .ok (.imul, 1) := by decide +kernel
theorem dX0_copyFrom_65 : decode cX0_copyFrom 65 = .ok (.invokestatic 30, 3) := by decide +kernel
theorem dX0_copyFrom_68 : decode cX0_copyFrom 68 = .ok (.aload_n 0, 1) := by decide +kernel
theorem dX0_copyFrom_69 : decode cX0_copyFrom 69 = .ok (.iload 4, 2) := by decide +kernel
theorem dX0_copyFrom_71 : decode cX0_copyFrom 71 = .ok (.putfield 15, 3) := by decide +kernel
theorem dX0_copyFrom_74 : decode cX0_copyFrom 74 = .ok (.return_, 1) := by decide +kernel
theorem dX0_dropFirst_0 : decode cX0_dropFirst 0 = .ok (.iload_n 1, 1) := by decide +kernel
theorem dX0_dropFirst_1 : decode cX0_dropFirst 1 = .ok (.ifCond .le 11, 3) := by decide +kernel
theorem dX0_dropFirst_4 : decode cX0_dropFirst 4 = .ok (.iload_n 1, 1) := by decide +kernel
theorem dX0_dropFirst_5 : decode cX0_dropFirst 5 = .ok (.aload_n 0, 1) := by decide +kernel
theorem dX0_dropFirst_6 : decode cX0_dropFirst 6 = .ok (.getfield 15, 3) := by decide +kernel
theorem dX0_dropFirst_9 : decode cX0_dropFirst 9 = .ok (.if_icmp .le 4, 3) := by decide +kernel
theorem dX0_dropFirst_12 : decode cX0_dropFirst 12 = .ok (.return_, 1) := by decide +kernel
theorem dX0_dropFirst_13 : decode cX0_dropFirst 13 = .ok (.aload_n 0, 1) := by decide +kernel
theorem dX0_dropFirst_14 : decode cX0_dropFirst 14 = .ok (.getfield 9, 3) := by decide +kernel
theorem dX0_dropFirst_17 : decode cX0_dropFirst 17 = .ok (.iload_n 1, 1) := by decide +kernel
theorem dX0_dropFirst_18 : decode cX0_dropFirst 18 = .ok (.bipush 8, 2) := by decide +kernel
theorem dX0_dropFirst_20 : decode cX0_dropFirst 20 = .ok (.imul, 1) := by decide +kernel
theorem dX0_dropFirst_21 : decode cX0_dropFirst 21 = .ok (.aload_n 0, 1) := by decide +kernel
theorem dX0_dropFirst_22 : decode cX0_dropFirst 22 = .ok (.getfield 9, 3) := by decide +kernel
theorem dX0_dropFirst_25 : decode cX0_dropFirst 25 = .ok (.iconst 0, 1) := by decide +kernel
theorem dX0_dropFirst_26 : decode cX0_dropFirst 26 = .ok (.aload_n 0, 1) := by decide +kernel
theorem dX0_dropFirst_27 : decode cX0_dropFirst 27 = .ok (.getfield 15, 3) := by decide +kernel
theorem dX0_dropFirst_30 : decode cX0_dropFirst 30 = .ok (.iload_n 1, 1) := by decide +kernel
theorem dX0_dropFirst_31 : decode cX0_dropFirst 31 = .ok (.isub, 1) := by decide +kernel
theorem dX0_dropFirst_32 : decode cX0_dropFirst 32 = .ok (.bipush 8, 2) := by decide +kernel
theorem dX0_dropFirst_34 : decode cX0_dropFirst 34 = .ok (.imul, 1) := by decide +kernel
theorem dX0_dropFirst_35 : decode cX0_dropFirst 35 = .ok (.invokestatic 30, 3) := by decide +kernel
theorem dX0_dropFirst_38 : decode cX0_dropFirst 38 = .ok (.aload_n 0, 1) := by decide +kernel
theorem dX0_dropFirst_39 : decode cX0_dropFirst 39 = .ok (.dup, 1) := by decide +kernel
theorem dX0_dropFirst_40 : decode cX0_dropFirst 40 = .ok (.getfield 15, 3) := by decide +kernel
theorem dX0_dropFirst_43 : decode cX0_dropFirst 43 = .ok (.iload_n 1, 1) := by decide +kernel
theorem dX0_dropFirst_44 : decode cX0_dropFirst 44 = .ok (.isub, 1) := by decide +kernel
theorem dX0_dropFirst_45 : decode cX0_dropFirst 45 = .ok (.putfield 15, 3) := by decide +kernel
theorem dX0_dropFirst_48 : decode cX0_dropFirst 48 = .ok (.return_, 1) := by decide +kernel
theorem dX0_clear_0 : decode cX0_clear 0 = .ok (.aload_n 0, 1) := by decide +kernel
theorem dX0_clear_1 : decode cX0_clear 1 = .ok (.iconst 0, 1) := by decide +kernel
theorem dX0_clear_2 : decode cX0_clear 2 = .ok (.putfield 15, 3) := by decide +kernel
theorem dX0_clear_5 : decode cX0_clear 5 = .ok (.return_, 1) := by decide +kernel
set_option maxRecDepth 20000 in
theorem ggX0_makeRoom_J7_copyOf_59c91 : GoodIn wsX0_makeRoom wsJ7_copyOf_59c91 := goodIn_r _ [12, 13, 14, 15, 16, 17, 18, 19, 20, 7, 4, 8, 21, 22, 23, 24] (by decide +kernel) (by decide +kernel)
set_option maxRecDepth 20000 in
theorem gX0_makeRoom_J7_copyOf_59c91 : GoodIn wsX0_makeRoom (va_wsS RX0 45 yJ7_copyOf_59c91 wsJ7_copyOf_59c91) := goodIn_app (goodIn_of _ (by decide +kernel)) ggX0_makeRoom_J7_copyOf_59c91
theorem dX0_makeRoom_0 : decode cX0_makeRoom 0 = .ok (.iload_n 1, 1) := by decide +kernel
theorem dX0_makeRoom_1 : decode cX0_makeRoom 1 = .ok (.bipush 8, 2) := by decide +kernel
theorem dX0_makeRoom_3 : decode cX0_makeRoom 3 = .ok (.imul, 1) := by decide +kernel
theorem dX0_makeRoom_4 : decode cX0_makeRoom 4 = .ok (.aload_n 0, 1) := by decide +kernel
theorem dX0_makeRoom_5 : decode cX0_makeRoom 5 = .ok (.getfield 9, 3) := by decide +kernel
theorem dX0_makeRoom_8 : decode cX0_makeRoom 8 = .ok (.arraylength, 1) := by decide +kernel
theorem dX0_makeRoom_9 : decode cX0_makeRoom 9 = .ok (.if_icmp .le 10, 3) := by decide +kernel
theorem dX0_makeRoom_12 : decode cX0_makeRoom 12 = .ok (.iload_n 1, 1) := by decide +kernel
theorem dX0_makeRoom_13 : decode cX0_makeRoom 13 = .ok (.sipush 4001, 3) := by decide +kernel
theorem dX0_makeRoom_16 : decode cX0_makeRoom 16 = .ok (.if_icmp .le 4, 3) := by decide +kernel
theorem dX0_makeRoom_19 : decode cX0_makeRoom 19 = .ok (.return_, 1) := by decide +kernel
theorem dX0_makeRoom_20 : decode cX0_makeRoom 20 = .ok (.sipush 4001, 3) := by decide +kernel
theorem dX0_makeRoom_23 : decode cX0_makeRoom 23 = .ok (.iload_n 1, 1) := by decide +kernel
theorem dX0_makeRoom_24 : decode cX0_makeRoom 24 = .ok (.iconst 2, 1) := by decide +kernel
theorem dX0_makeRoom_25 : decode cX0_makeRoom 25 = .ok (.aload_n 0, 1) := by decide +kernel
theorem dX0_makeRoom_26 : decode cX0_makeRoom 26 = .ok (.getfield 9, 3) := by decide +kernel
theorem dX0_makeRoom_29 : decode cX0_makeRoom 29 = .ok (.arraylength, 1) := by decide +kernel
theorem dX0_makeRoom_30 : decode cX0_makeRoom 30 = .ok (.bipush 8, 2) := by decide +kernel
theorem dX0_makeRoom_32 : decode cX0_makeRoom 32 = .ok (.idiv, 1) := by decide +kernel
theorem dX0_makeRoom_33 : decode cX0_makeRoom 33 = .ok (.imul, 1) := by decide +kernel
theorem dX0_makeRoom_34 : decode cX0_makeRoom 34 = .ok (.invokestatic 36, 3) := by decide +kernel
theorem dX0_makeRoom_37 : decode cX0_makeRoom 37 = .ok (.invokestatic 42, 3) := by decide +kernel
theorem dX0_makeRoom_40 : decode cX0_makeRoom 40 = .ok (.istore_n 2, 1) := by decide +kernel
theorem dX0_makeRoom_41 : decode cX0_makeRoom 41 = .ok (.aload_n 0, 1) := by decide +kernel
theorem dX0_makeRoom_42 : decode cX0_makeRoom 42 = .ok (.aload_n 0, 1) := by decide +kernel
theorem dX0_makeRoom_43 : decode cX0_makeRoom 43 = .ok (.getfield 9, 3) := by decide +kernel
theorem dX0_makeRoom_46 : decode cX0_makeRoom 46 = .ok (.iload_n 2, 1) := by decide +kernel
theorem dX0_makeRoom_47 : decode cX0_makeRoom 47 = .ok (.bipush 8, 2) := by decide +kernel
theorem dX0_makeRoom_49 : decode cX0_makeRoom 49 = .ok (.imul, 1) := by decide +kernel
theorem dX0_makeRoom_50 : decode cX0_makeRoom 50 = .ok (.invokestatic 45, 3) := by decide +kernel
theorem dX0_makeRoom_53 : decode cX0_makeRoom 53 = .ok (.putfield 9, 3) := by decide +kernel
theorem dX0_makeRoom_56 : decode cX0_makeRoom 56 = .ok (.return_, 1) := by decide +kernel
set_option maxRecDepth 20000 in
theorem ggX1_init_X0_init : GoodIn wsX1_init wsX0_init := goodIn_r _ [10, 11, 2, 3, 12, 13, 14, 15] (by decide +kernel) (by decide +kernel)
set_option maxRecDepth 20000 in
theorem gX1_init_X0_init : GoodIn wsX1_init (wsX0_init) := ggX1_init_X0_init
theorem dX1_init_0 : decode cX1_init 0 = .ok (.aload_n 0, 1) := by decide +kernel
theorem dX1_init_1 : decode cX1_init 1 = .ok (.invokespecial 3, 3) := by decide +kernel
theorem dX1_init_4 : decode cX1_init 4 = .ok (.aload_n 0, 1) := by decide +kernel
theorem dX1_init_5 : decode cX1_init 5 = .ok (.new 9, 3) := by decide +kernel
theorem dX1_init_8 : decode cX1_init 8 = .ok (.dup, 1) := by decide +kernel
theorem dX1_init_9 : decode cX1_init 9 = .ok (.bipush 8, 2) := by decide +kernel
theorem dX1_init_11 : decode cX1_init 11 = .ok (.invokespecial 11, 3) := by decide +kernel
theorem dX1_init_14 : decode cX1_init 14 = .ok (.putfield 14, 3) := by decide +kernel
theorem dX1_init_17 : decode cX1_init 17 = .ok (.return_, 1) := by decide +kernel
set_option maxRecDepth 20000 in
theorem ggX1_make_X0_copyFrom : GoodIn wsX1_make wsX0_copyFrom := goodIn_r _ [9, 10, 11, 12, 13, 14, 15, 16, 17, 18, 8, 19, 20, 21, 22, 23, 24, 25, 26, 27, 28, 29, 30, 31, 32, 33, 34, 35, 36, 37, 38, 39, 109, 110] (by decide +kernel) (by decide +kernel)
set_option maxRecDepth 20000 in
theorem gX1_make_X0_copyFrom : GoodIn wsX1_make (wsV RX1 20 RX0 yX0_copyFrom wsX0_copyFrom) := goodIn_app (goodIn_of _ (by decide +kernel)) ggX1_make_X0_copyFrom
set_option maxRecDepth 20000 in
theorem ggX1_make_X4_total : GoodIn wsX1_make wsX4_total := goodIn_r _ [44, 45, 46, 103, 104, 105, 106, 107, 108] (by decide +kernel) (by decide +kernel)
set_option maxRecDepth 20000 in
theorem gX1_make_X4_total : GoodIn wsX1_make (wsV RX1 41 RX4 yX4_total wsX4_total) := goodIn_app (goodIn_of _ (by decide +kernel)) ggX1_make_X4_total
set_option maxRecDepth 20000 in
theorem ggX1_make_X1_setGlue : GoodIn wsX1_make wsX1_setGlue := goodIn_r _ [51, 52, 53, 22, 54, 55, 56, 57, 43, 58, 59, 60, 61, 62, 63, 64, 65, 66, 50, 67, 1, 68, 69, 70, 8, 71, 10, 72, 73, 74, 75, 11, 76, 77, 78, 79, 80, 81, 82, 83, 84, 85, 86, 87, 88, 89, 90, 91, 92, 93, 94, 95, 96, 97, 98, 103, 104, 105, 106, 107, 108, 99, 100, 101, 102, 109, 110] (by decide +kernel) (by decide +kernel)
set_option maxRecDepth 20000 in
theorem gX1_make_X1_setGlue : GoodIn wsX1_make (wsV RX1 45 RX1 yX1_setGlue wsX1_setGlue) := goodIn_app (goodIn_of _ (by decide +kernel)) ggX1_make_X1_setGlue
theorem dX1_make_0 : decode cX1_make 0 = .ok (.aload_n 0, 1) := by decide +kernel
theorem dX1_make_1 : decode cX1_make 1 = .ok (.getfield 14, 3) := by decide +kernel
theorem dX1_make_4 : decode cX1_make 4 = .ok (.aload_n 1, 1) := by decide +kernel
theorem dX1_make_5 : decode cX1_make 5 = .ok (.iload_n 2, 1) := by decide +kernel
theorem dX1_make_6 : decode cX1_make 6 = .ok (.iload_n 3, 1) := by decide +kernel
theorem dX1_make_7 : decode cX1_make 7 = .ok (.invokevirtual 20, 3) := by decide +kernel
theorem dX1_make_10 : decode cX1_make 10 = .ok (.aload_n 0, 1) := by decide +kernel
theorem dX1_make_11 : decode cX1_make 11 = .ok (.iload 4, 2) := by decide +kernel
theorem dX1_make_13 : decode cX1_make 13 = .ok (.putfield 24, 3) := by decide +kernel
theorem dX1_make_16 : decode cX1_make 16 = .ok (.aload_n 0, 1) := by decide +kernel
theorem dX1_make_17 : decode cX1_make 17 = .ok (.aload 5, 2) := by decide +kernel
theorem dX1_make_19 : decode cX1_make 19 = .ok (.getfield 28, 3) := by decide +kernel
theorem dX1_make_22 : decode cX1_make 22 = .ok (.l2i, 1) := by decide +kernel
theorem dX1_make_23 : decode cX1_make 23 = .ok (.putfield 34, 3) := by decide +kernel
theorem dX1_make_26 : decode cX1_make 26 = .ok (.aload_n 0, 1) := by decide +kernel
theorem dX1_make_27 : decode cX1_make 27 = .ok (.aload 5, 2) := by decide +kernel
theorem dX1_make_29 : decode cX1_make 29 = .ok (.getfield 36, 3) := by decide +kernel
theorem dX1_make_32 : decode cX1_make 32 = .ok (.l2i, 1) := by decide +kernel
theorem dX1_make_33 : decode cX1_make 33 = .ok (.putfield 39, 3) := by decide +kernel
theorem dX1_make_36 : decode cX1_make 36 = .ok (.aload_n 0, 1) := by decide +kernel
theorem dX1_make_37 : decode cX1_make 37 = .ok (.iload 4, 2) := by decide +kernel
theorem dX1_make_39 : decode cX1_make 39 = .ok (.i2l, 1) := by decide +kernel
theorem dX1_make_40 : decode cX1_make 40 = .ok (.aload 5, 2) := by decide +kernel
theorem dX1_make_42 : decode cX1_make 42 = .ok (.invokevirtual 41, 3) := by decide +kernel
theorem dX1_make_45 : decode cX1_make 45 = .ok (.lsub, 1) := by decide +kernel
theorem dX1_make_46 : decode cX1_make 46 = .ok (.aload 5, 2) := by decide +kernel
theorem dX1_make_48 : decode cX1_make 48 = .ok (.invokevirtual 45, 3) := by decide +kernel
theorem dX1_make_51 : decode cX1_make 51 = .ok (.return_, 1) := by decide +kernel
set_option maxRecDepth 20000 in
theorem ggX1_setGlue_X4_highestOrder : GoodIn wsX1_setGlue wsX4_highestOrder := goodIn_r _ [9, 10, 55, 56, 57, 58, 59, 60] (by decide +kernel) (by decide +kernel)
set_option maxRecDepth 20000 in
theorem gX1_setGlue_X4_highestOrder : GoodIn wsX1_setGlue (wsV RX1 49 RX4 yX4_highestOrder wsX4_highestOrder) := goodIn_app (goodIn_of _ (by decide +kernel)) ggX1_setGlue_X4_highestOrder
set_option maxRecDepth 20000 in
theorem ggX1_setGlue_X4_stretchOf : GoodIn wsX1_setGlue wsX4_stretchOf := goodIn_r _ [14, 10, 55, 56, 57, 58, 59, 60] (by decide +kernel) (by decide +kernel)
set_option maxRecDepth 20000 in
theorem gX1_setGlue_X4_stretchOf : GoodIn wsX1_setGlue (wsV RX1 53 RX4 yX4_stretchOf wsX4_stretchOf) := goodIn_app (goodIn_of _ (by decide +kernel)) ggX1_setGlue_X4_stretchOf
set_option maxRecDepth 20000 in
theorem ggX1_setGlue_X1_spread : GoodIn wsX1_setGlue wsX1_spread := goodIn_r _ [19, 20, 21, 22, 23, 24, 25, 26, 27, 28, 29, 30, 31, 32, 33, 34, 18, 35, 36, 37, 38, 39, 40, 41, 3, 42, 43, 44, 45, 46, 47, 48, 49, 50, 1, 2, 4, 51, 52, 53, 54, 61, 62, 63, 64, 65, 66] (by decide +kernel) (by decide +kernel)
set_option maxRecDepth 20000 in
theorem gX1_setGlue_X1_spread : GoodIn wsX1_setGlue (wsV RX1 57 RX1 yX1_spread wsX1_spread) := goodIn_app (goodIn_of _ (by decide +kernel)) ggX1_setGlue_X1_spread
theorem dX1_setGlue_0 : decode cX1_setGlue 0 = .ok (.aload_n 3, 1) := by decide +kernel
theorem dX1_setGlue_1 : decode cX1_setGlue 1 = .ok (.invokevirtual 49, 3) := by decide +kernel
theorem dX1_setGlue_4 : decode cX1_setGlue 4 = .ok (.istore 4, 2) := by decide +kernel
theorem dX1_setGlue_6 : decode cX1_setGlue 6 = .ok (.lload_n 1, 1) := by decide +kernel
theorem dX1_setGlue_7 : decode cX1_setGlue 7 = .ok (.lconst 0, 1) := by decide +kernel
theorem dX1_setGlue_8 : decode cX1_setGlue 8 = .ok (.lcmp, 1) := by decide +kernel
theorem dX1_setGlue_9 : decode cX1_setGlue 9 = .ok (.ifCond .le 25, 3) := by decide +kernel
theorem dX1_setGlue_12 : decode cX1_setGlue 12 = .ok (.iload 4, 2) := by decide +kernel
theorem dX1_setGlue_14 : decode cX1_setGlue 14 = .ok (.iconst (-1), 1) := by decide +kernel
theorem dX1_setGlue_15 : decode cX1_setGlue 15 = .ok (.if_icmp .eq 19, 3) := by decide +kernel
theorem dX1_setGlue_18 : decode cX1_setGlue 18 = .ok (.aload_n 0, 1) := by decide +kernel
theorem dX1_setGlue_19 : decode cX1_setGlue 19 = .ok (.lload_n 1, 1) := by decide +kernel
theorem dX1_setGlue_20 : decode cX1_setGlue 20 = .ok (.aload_n 3, 1) := by decide +kernel
theorem dX1_setGlue_21 : decode cX1_setGlue 21 = .ok (.iload 4, 2) := by decide +kernel
theorem dX1_setGlue_23 : decode cX1_setGlue 23 = .ok (.invokevirtual 53, 3) := by decide +kernel
theorem dX1_setGlue_26 : decode cX1_setGlue 26 = .ok (.iload 4, 2) := by decide +kernel
theorem dX1_setGlue_28 : decode cX1_setGlue 28 = .ok (.invokevirtual 57, 3) := by decide +kernel
theorem dX1_setGlue_31 : decode cX1_setGlue 31 = .ok (.goto 27, 3) := by decide +kernel
theorem dX1_setGlue_34 : decode cX1_setGlue 34 = .ok (.lload_n 1, 1) := by decide +kernel
theorem dX1_setGlue_35 : decode cX1_setGlue 35 = .ok (.lconst 0, 1) := by decide +kernel
theorem dX1_setGlue_36 : decode cX1_setGlue 36 = .ok (.lcmp, 1) := by decide +kernel
theorem dX1_setGlue_37 : decode cX1_setGlue 37 = .ok (.ifCond .ge 21, 3) := by decide +kernel
theorem dX1_setGlue_40 : decode cX1_setGlue 40 = .ok (.aload_n 0, 1) := by decide +kernel
theorem dX1_setGlue_41 : decode cX1_setGlue 41 = .ok (.lload_n 1, 1) := by decide +kernel
theorem dX1_setGlue_42 : decode cX1_setGlue 42 = .ok (.aload_n 3, 1) := by decide +kernel
theorem dX1_setGlue_43 : decode cX1_setGlue 43 = .ok (.getfield 61, 3) := by decide +kernel
theorem dX1_setGlue_46 : decode cX1_setGlue 46 = .ok (.lneg, 1) := by decide +kernel
theorem dX1_setGlue_47 : decode cX1_setGlue 47 = .ok (.invokestatic 64, 3) := by decide +kernel
theorem dX1_setGlue_50 : decode cX1_setGlue 50 = .ok (.aload_n 3, 1) := by decide +kernel
theorem dX1_setGlue_51 : decode cX1_setGlue 51 = .ok (.getfield 61, 3) := by decide +kernel
theorem dX1_setGlue_54 : decode cX1_setGlue 54 = .ok (.iconst (-1), 1) := by decide +kernel
theorem dX1_setGlue_55 : decode cX1_setGlue 55 = .ok (.invokevirtual 57, 3) := by decide +kernel
theorem dX1_setGlue_58 : decode cX1_setGlue 58 = .ok (.return_, 1) := by decide +kernel
set_option maxRecDepth 20000 in
theorem ggX1_spread_X0_size : GoodIn wsX1_spread wsX0_size := goodIn_r _ [6, 7, 45, 46] (by decide +kernel) (by decide +kernel)
set_option maxRecDepth 20000 in
theorem gX1_spread_X0_size : GoodIn wsX1_spread (wsV RX1 70 RX0 yX0_size wsX0_size) := goodIn_app (goodIn_of _ (by decide +kernel)) ggX1_spread_X0_size
set_option maxRecDepth 20000 in
theorem ggX1_spread_X0_at : GoodIn wsX1_spread wsX0_at := goodIn_r _ [11, 7, 12, 45, 46] (by decide +kernel) (by decide +kernel)
set_option maxRecDepth 20000 in
theorem gX1_spread_X0_at : GoodIn wsX1_spread (wsV RX1 73 RX0 yX0_at wsX0_at) := goodIn_app (goodIn_of _ (by decide +kernel)) ggX1_spread_X0_at
set_option maxRecDepth 20000 in
theorem ggX1_spread_X1_shareOf : GoodIn wsX1_spread wsX1_shareOf := goodIn_r _ [17, 1, 8, 9, 10, 5, 11, 7, 12, 41, 42, 43, 44, 45, 46] (by decide +kernel) (by decide +kernel)
set_option maxRecDepth 20000 in
theorem gX1_spread_X1_shareOf : GoodIn wsX1_spread (wsV RX1 77 RX1 yX1_shareOf wsX1_shareOf) := goodIn_app (goodIn_of _ (by decide +kernel)) ggX1_spread_X1_shareOf
set_option maxRecDepth 20000 in
theorem ggX1_spread_X5_near : GoodIn wsX1_spread wsX5_near := goodIn_r _ [20, 21, 22, 23, 24, 25] (by decide +kernel) (by decide +kernel)
set_option maxRecDepth 20000 in
theorem gX1_spread_X5_near_n80 : GoodIn wsX1_spread (wsX5_near) := ggX1_spread_X5_near
set_option maxRecDepth 20000 in
theorem ggX1_spread_X1_within : GoodIn wsX1_spread wsX1_within := goodIn_r _ [28, 29, 30, 31, 32, 24, 33, 34, 35, 36] (by decide +kernel) (by decide +kernel)
set_option maxRecDepth 20000 in
theorem gX1_spread_X1_within : GoodIn wsX1_spread (va_wsS RX1 83 yX1_within wsX1_within) := goodIn_app (goodIn_of _ (by decide +kernel)) ggX1_spread_X1_within
set_option maxRecDepth 20000 in
theorem ggX1_spread_X0_put : GoodIn wsX1_spread wsX0_put := goodIn_r _ [40, 7, 12, 45, 46] (by decide +kernel) (by decide +kernel)
set_option maxRecDepth 20000 in
theorem gX1_spread_X0_put : GoodIn wsX1_spread (wsV RX1 87 RX0 yX0_put wsX0_put) := goodIn_app (goodIn_of _ (by decide +kernel)) ggX1_spread_X0_put
theorem dX1_spread_0 : decode cX1_spread 0 = .ok (.lconst 0, 1) := by decide +kernel
theorem dX1_spread_1 : decode cX1_spread 1 = .ok (.lstore 6, 2) := by decide +kernel
theorem dX1_spread_3 : decode cX1_spread 3 = .ok (.iconst 0, 1) := by decide +kernel
theorem dX1_spread_4 : decode cX1_spread 4 = .ok (.istore 8, 2) := by decide +kernel
theorem dX1_spread_6 : decode cX1_spread 6 = .ok (.iload 8, 2) := by decide +kernel
theorem dX1_spread_8 : decode cX1_spread 8 = .ok (.aload_n 0, 1) := by decide +kernel
theorem dX1_spread_9 : decode cX1_spread 9 = .ok (.getfield 14, 3) := by decide +kernel
theorem dX1_spread_12 : decode cX1_spread 12 = .ok (.invokevirtual 70, 3) := by decide +kernel
theorem dX1_spread_15 : decode cX1_spread 15 = .ok (.if_icmp .ge 87, 3) := by decide +kernel
theorem dX1_spread_18 : decode cX1_spread 18 = .ok (.aload_n 0, 1) := by decide +kernel
theorem dX1_spread_19 : decode cX1_spread 19 = .ok (.getfield 14, 3) := by decide +kernel
theorem dX1_spread_22 : decode cX1_spread 22 = .ok (.iload 8, 2) := by decide +kernel
theorem dX1_spread_24 : decode cX1_spread 24 = .ok (.iconst 0, 1) := by decide +kernel
theorem dX1_spread_25 : decode cX1_spread 25 = .ok (.invokevirtual 73, 3) := by decide +kernel
theorem dX1_spread_28 : decode cX1_spread 28 = .ok (.iconst 5, 1) := by decide +kernel
theorem dX1_spread_29 : decode cX1_spread 29 = .ok (.if_icmp .ne 67, 3) := by decide +kernel
theorem dX1_spread_32 : decode cX1_spread 32 = .ok (.lload 6, 2) := by decide +kernel
theorem dX1_spread_34 : decode cX1_spread 34 = .ok (.aload_n 0, 1) := by decide +kernel
theorem dX1_spread_35 : decode cX1_spread 35 = .ok (.iload 8, 2) := by decide +kernel
theorem dX1_spread_37 : decode cX1_spread 37 = .ok (.iload 5, 2) := by decide +kernel
theorem dX1_spread_39 : decode cX1_spread 39 = .ok (.invokevirtual 77, 3) := by decide +kernel
theorem dX1_spread_42 : decode cX1_spread 42 = .ok (.i2l, 1) := by decide +kernel
theorem dX1_spread_43 : decode cX1_spread 43 = .ok (.ladd, 1) := by decide +kernel
theorem dX1_spread_44 : decode cX1_spread 44 = .ok (.lstore 9, 2) := by decide +kernel
theorem dX1_spread_46 : decode cX1_spread 46 = .ok (.lload_n 1, 1) := by decide +kernel
theorem dX1_spread_47 : decode cX1_spread 47 = .ok (.lload 9, 2) := by decide +kernel
theorem dX1_spread_49 : decode cX1_spread 49 = .ok (.lmul, 1) := by decide +kernel
theorem dX1_spread_50 : decode cX1_spread 50 = .ok (.lload_n 3, 1) := by decide +kernel
theorem dX1_spread_51 : decode cX1_spread 51 = .ok (.invokestatic 80, 3) := by decide +kernel
theorem dX1_spread_54 : decode cX1_spread 54 = .ok (.lload_n 1, 1) := by decide +kernel
theorem dX1_spread_55 : decode cX1_spread 55 = .ok (.lload 6, 2) := by decide +kernel
theorem dX1_spread_57 : decode cX1_spread 57 = .ok (.lmul, 1) := by decide +kernel
theorem dX1_spread_58 : decode cX1_spread 58 = .ok (.lload_n 3, 1) := by decide +kernel
theorem dX1_spread_59 : decode cX1_spread 59 = .ok (.invokestatic 80, 3) := by decide +kernel
theorem dX1_spread_62 : decode cX1_spread 62 = .ok (.lsub, 1) := by decide +kernel
theorem dX1_spread_63 : decode cX1_spread 63 = .ok (.lstore 11, 2) := by decide +kernel
theorem dX1_spread_65 : decode cX1_spread 65 = .ok (.aload_n 0, 1) := by decide +kernel
theorem dX1_spread_66 : decode cX1_spread 66 = .ok (.getfield 14, 3) := by decide +kernel
theorem dX1_spread_69 : decode cX1_spread 69 = .ok (.iload 8, 2) := by decide +kernel
theorem dX1_spread_71 : decode cX1_spread 71 = .ok (.iconst 1, 1) := by decide +kernel
theorem dX1_spread_72 : decode cX1_spread 72 = .ok (.aload_n 0, 1) := by decide +kernel
theorem dX1_spread_73 : decode cX1_spread 73 = .ok (.getfield 14, 3) := by decide +kernel
theorem dX1_spread_76 : decode cX1_spread 76 = .ok (.iload 8, 2) := by decide +kernel
theorem dX1_spread_78 : decode cX1_spread 78 = .ok (.iconst 1, 1) := by decide +kernel
theorem dX1_spread_79 : decode cX1_spread 79 = .ok (.invokevirtual 73, 3) := by decide +kernel
theorem dX1_spread_82 : decode cX1_spread 82 = .ok (.i2l, 1) := by decide +kernel
theorem dX1_spread_83 : decode cX1_spread 83 = .ok (.lload 11, 2) := by decide +kernel
theorem dX1_spread_85 : decode cX1_spread 85 = .ok (.ladd, 1) := by decide +kernel
theorem dX1_spread_86 : decode cX1_spread 86 = .ok (.invokestatic 83, 3) := by decide +kernel
theorem dX1_spread_89 : decode cX1_spread 89 = .ok (.invokevirtual 87, 3) := by decide +kernel
theorem dX1_spread_92 : decode cX1_spread 92 = .ok (.lload 9, 2) := by decide +kernel
theorem dX1_spread_94 : decode cX1_spread 94 = .ok (.lstore 6, 2) := by decide +kernel
theorem dX1_spread_96 : decode cX1_spread 96 = .ok (.iinc 8 1, 3) := by decide +kernel
theorem dX1_spread_99 : decode cX1_spread 99 = .ok (.goto (-93), 3) := by decide +kernel
theorem dX1_spread_102 : decode cX1_spread 102 = .ok (.return_, 1) := by decide +kernel
set_option maxRecDepth 20000 in
theorem ggX1_shareOf_X0_at : GoodIn wsX1_shareOf wsX0_at := goodIn_r _ [6, 7, 8, 13, 14] (by decide +kernel) (by decide +kernel)
set_option maxRecDepth 20000 in
theorem gX1_shareOf_X0_at : GoodIn wsX1_shareOf (wsV RX1 73 RX0 yX0_at wsX0_at) := goodIn_app (goodIn_of _ (by decide +kernel)) ggX1_shareOf_X0_at
theorem dX1_shareOf_0 : decode cX1_shareOf 0 = .ok (.iload_n 2, 1) := by decide +kernel
theorem dX1_shareOf_1 : decode cX1_shareOf 1 = .ok (.iconst (-1), 1) := by decide +kernel
theorem dX1_shareOf_2 : decode cX1_shareOf 2 = .ok (.if_icmp .ne 14, 3) := by decide +kernel
theorem dX1_shareOf_5 : decode cX1_shareOf 5 = .ok (.aload_n 0, 1) := by decide +kernel
theorem dX1_shareOf_6 : decode cX1_shareOf 6 = .ok (.getfield 14, 3) := by decide +kernel
theorem dX1_shareOf_9 : decode cX1_shareOf 9 = .ok (.iload_n 1, 1) := by decide +kernel
theorem dX1_shareOf_10 : decode cX1_shareOf 10 = .ok (.bipush 7, 2) := by decide +kernel
theorem dX1_shareOf_12 : decode cX1_shareOf 12 = .ok (.invokevirtual 73, 3) := by decide +kernel
theorem dX1_shareOf_15 : decode cX1_shareOf 15 = .ok (.ireturn, 1) := by decide +kernel
theorem dX1_shareOf_16 : decode cX1_shareOf 16 = .ok (.aload_n 0, 1) := by decide +kernel
theorem dX1_shareOf_17 : decode cX1_shareOf 17 = .ok (.getfield 14, 3) := by decide +kernel
theorem dX1_shareOf_20 : decode cX1_shareOf 20 = .ok (.iload_n 1, 1) := by decide +kernel
theorem dX1_shareOf_21 : decode cX1_shareOf 21 = .ok (.bipush 6, 2) := by decide +kernel
theorem dX1_shareOf_23 : decode cX1_shareOf 23 = .ok (.invokevirtual 73, 3) := by decide +kernel
theorem dX1_shareOf_26 : decode cX1_shareOf 26 = .ok (.iload_n 2, 1) := by decide +kernel
theorem dX1_shareOf_27 : decode cX1_shareOf 27 = .ok (.if_icmp .ne 15, 3) := by decide +kernel
theorem dX1_shareOf_30 : decode cX1_shareOf 30 = .ok (.aload_n 0, 1) := by decide +kernel
theorem dX1_shareOf_31 : decode cX1_shareOf 31 = .ok (.getfield 14, 3) := by decide +kernel
theorem dX1_shareOf_34 : decode cX1_shareOf 34 = .ok (.iload_n 1, 1) := by decide +kernel
theorem dX1_shareOf_35 : decode cX1_shareOf 35 = .ok (.iconst 5, 1) := by decide +kernel
theorem dX1_shareOf_36 : decode cX1_shareOf 36 = .ok (.invokevirtual 73, 3) := by decide +kernel
theorem dX1_shareOf_39 : decode cX1_shareOf 39 = .ok (.goto 4, 3) := by decide +kernel
theorem dX1_shareOf_42 : decode cX1_shareOf 42 = .ok (.iconst 0, 1) := by decide +kernel
theorem dX1_shareOf_43 : decode cX1_shareOf 43 = .ok (.ireturn, 1) := by decide +kernel
theorem dX1_within_0 : decode cX1_within 0 = .ok (.ldc2_w 91, 3) := by decide +kernel
theorem dX1_within_3 : decode cX1_within 3 = .ok (.ldc2_w 93, 3) := by decide +kernel
theorem dX1_within_6 : decode cX1_within 6 = .ok (.lload_n 0, 1) := by decide +kernel
theorem dX1_within_7 : decode cX1_within 7 = .ok (.invokestatic 95, 3) := by decide +kernel
theorem dX1_within_10 : decode cX1_within 10 = .ok (.invokestatic 64, 3) := by decide +kernel
theorem dX1_within_13 : decode cX1_within 13 = .ok (.l2i, 1) := by decide +kernel
theorem dX1_within_14 : decode cX1_within 14 = .ok (.ireturn, 1) := by decide +kernel
set_option maxRecDepth 20000 in
theorem ggX2_init_X4_init : GoodIn wsX2_init wsX4_init := goodIn_r _ [10, 11, 2, 3, 12, 13, 14, 15, 16, 17, 18, 19] (by decide +kernel) (by decide +kernel)
set_option maxRecDepth 20000 in
theorem gX2_init_X4_init_n11 : GoodIn wsX2_init (wsX4_init) := ggX2_init_X4_init
theorem dX2_init_0 : decode cX2_init 0 = .ok (.aload_n 0, 1) := by decide +kernel
theorem dX2_init_1 : decode cX2_init 1 = .ok (.invokespecial 3, 3) := by decide +kernel
theorem dX2_init_4 : decode cX2_init 4 = .ok (.aload_n 0, 1) := by decide +kernel
theorem dX2_init_5 : decode cX2_init 5 = .ok (.new 9, 3) := by decide +kernel
theorem dX2_init_8 : decode cX2_init 8 = .ok (.dup, 1) := by decide +kernel
theorem dX2_init_9 : decode cX2_init 9 = .ok (.invokespecial 11, 3) := by decide +kernel
theorem dX2_init_12 : decode cX2_init 12 = .ok (.putfield 12, 3) := by decide +kernel
theorem dX2_init_15 : decode cX2_init 15 = .ok (.aload_n 0, 1) := by decide +kernel
theorem dX2_init_16 : decode cX2_init 16 = .ok (.iconst (-1), 1) := by decide +kernel
theorem dX2_init_17 : decode cX2_init 17 = .ok (.putfield 18, 3) := by decide +kernel
theorem dX2_init_20 : decode cX2_init 20 = .ok (.return_, 1) := by decide +kernel
set_option maxRecDepth 20000 in
theorem ggX2_begin_X4_clear : GoodIn wsX2_begin wsX4_clear := goodIn_r _ [9, 10, 11, 12, 13, 14, 15, 16, 17, 18, 19, 26, 27, 28, 29, 30, 31] (by decide +kernel) (by decide +kernel)
set_option maxRecDepth 20000 in
theorem gX2_begin_X4_clear : GoodIn wsX2_begin (wsV RX2 32 RX4 yX4_clear wsX4_clear) := goodIn_app (goodIn_of _ (by decide +kernel)) ggX2_begin_X4_clear
theorem dX2_begin_0 : decode cX2_begin 0 = .ok (.aload_n 0, 1) := by decide +kernel
theorem dX2_begin_1 : decode cX2_begin 1 = .ok (.iconst 1, 1) := by decide +kernel
theorem dX2_begin_2 : decode cX2_begin 2 = .ok (.putfield 22, 3) := by decide +kernel
theorem dX2_begin_5 : decode cX2_begin 5 = .ok (.aload_n 0, 1) := by decide +kernel
theorem dX2_begin_6 : decode cX2_begin 6 = .ok (.iload_n 1, 1) := by decide +kernel
theorem dX2_begin_7 : decode cX2_begin 7 = .ok (.putfield 26, 3) := by decide +kernel
theorem dX2_begin_10 : decode cX2_begin 10 = .ok (.aload_n 0, 1) := by decide +kernel
theorem dX2_begin_11 : decode cX2_begin 11 = .ok (.iload_n 2, 1) := by decide +kernel
theorem dX2_begin_12 : decode cX2_begin 12 = .ok (.putfield 29, 3) := by decide +kernel
theorem dX2_begin_15 : decode cX2_begin 15 = .ok (.aload_n 0, 1) := by decide +kernel
theorem dX2_begin_16 : decode cX2_begin 16 = .ok (.getfield 12, 3) := by decide +kernel
theorem dX2_begin_19 : decode cX2_begin 19 = .ok (.iload_n 3, 1) := by decide +kernel
theorem dX2_begin_20 : decode cX2_begin 20 = .ok (.invokevirtual 32, 3) := by decide +kernel
theorem dX2_begin_23 : decode cX2_begin 23 = .ok (.return_, 1) := by decide +kernel
theorem dX2_forget_0 : decode cX2_forget 0 = .ok (.aload_n 0, 1) := by decide +kernel
theorem dX2_forget_1 : decode cX2_forget 1 = .ok (.iconst 0, 1) := by decide +kernel
theorem dX2_forget_2 : decode cX2_forget 2 = .ok (.putfield 22, 3) := by decide +kernel
theorem dX2_forget_5 : decode cX2_forget 5 = .ok (.aload_n 0, 1) := by decide +kernel
theorem dX2_forget_6 : decode cX2_forget 6 = .ok (.iconst 0, 1) := by decide +kernel
theorem dX2_forget_7 : decode cX2_forget 7 = .ok (.putfield 26, 3) := by decide +kernel
theorem dX2_forget_10 : decode cX2_forget 10 = .ok (.aload_n 0, 1) := by decide +kernel
theorem dX2_forget_11 : decode cX2_forget 11 = .ok (.iconst (-1), 1) := by decide +kernel
theorem dX2_forget_12 : decode cX2_forget 12 = .ok (.putfield 18, 3) := by decide +kernel
theorem dX2_forget_15 : decode cX2_forget 15 = .ok (.aload_n 0, 1) := by decide +kernel
theorem dX2_forget_16 : decode cX2_forget 16 = .ok (.lconst 0, 1) := by decide +kernel
theorem dX2_forget_17 : decode cX2_forget 17 = .ok (.putfield 36, 3) := by decide +kernel
theorem dX2_forget_20 : decode cX2_forget 20 = .ok (.return_, 1) := by decide +kernel
theorem dX2_hasBest_0 : decode cX2_hasBest 0 = .ok (.aload_n 0, 1) := by decide +kernel
theorem dX2_hasBest_1 : decode cX2_hasBest 1 = .ok (.getfield 18, 3) := by decide +kernel
theorem dX2_hasBest_4 : decode cX2_hasBest 4 = .ok (.iconst (-1), 1) := by decide +kernel
theorem dX2_hasBest_5 : decode cX2_hasBest 5 = .ok (.if_icmp .eq 7, 3) := by decide +kernel
theorem dX2_hasBest_8 : decode cX2_hasBest 8 = .ok (.iconst 1, 1) := by decide +kernel
theorem dX2_hasBest_9 : decode cX2_hasBest 9 = .ok (.goto 4, 3) := by decide +kernel
theorem dX2_hasBest_12 : decode cX2_hasBest 12 = .ok (.iconst 0, 1) := by decide +kernel
theorem dX2_hasBest_13 : decode cX2_hasBest 13 = .ok (.ireturn, 1) := by decide +kernel
set_option maxRecDepth 20000 in
theorem ggX2_weigh_X2_badnessNow : GoodIn wsX2_weigh wsX2_badnessNow := goodIn_r _ [8, 9, 10, 1, 11, 12, 13, 14, 15, 16, 17, 18, 19, 20, 21, 22, 23, 24, 25, 26, 27, 28, 29, 30, 31, 32, 33, 34, 44, 45, 46, 47, 48, 49, 50, 51, 52, 53, 54, 55] (by decide +kernel) (by decide +kernel)
set_option maxRecDepth 20000 in
theorem gX2_weigh_X2_badnessNow : GoodIn wsX2_weigh (wsV RX2 40 RX2 yX2_badnessNow wsX2_badnessNow) := goodIn_app (goodIn_of _ (by decide +kernel)) ggX2_weigh_X2_badnessNow
set_option maxRecDepth 20000 in
theorem ggX2_weigh_X2_costOf : GoodIn wsX2_weigh wsX2_costOf := goodIn_r _ [37, 38, 39] (by decide +kernel) (by decide +kernel)
set_option maxRecDepth 20000 in
theorem gX2_weigh_X2_costOf : GoodIn wsX2_weigh (va_wsS RX2 46 yX2_costOf wsX2_costOf) := goodIn_app (goodIn_of _ (by decide +kernel)) ggX2_weigh_X2_costOf
set_option maxRecDepth 20000 in
theorem ggX2_weigh_X2_hasBest : GoodIn wsX2_weigh wsX2_hasBest := goodIn_r _ [43, 3, 44, 45, 46, 47, 48, 49] (by decide +kernel) (by decide +kernel)
set_option maxRecDepth 20000 in
theorem gX2_weigh_X2_hasBest : GoodIn wsX2_weigh (wsV RX2 50 RX2 yX2_hasBest wsX2_hasBest) := goodIn_app (goodIn_of _ (by decide +kernel)) ggX2_weigh_X2_hasBest
theorem dX2_weigh_0 : decode cX2_weigh 0 = .ok (.aload_n 0, 1) := by decide +kernel
theorem dX2_weigh_1 : decode cX2_weigh 1 = .ok (.invokevirtual 40, 3) := by decide +kernel
theorem dX2_weigh_4 : decode cX2_weigh 4 = .ok (.lstore_n 3, 1) := by decide +kernel
theorem dX2_weigh_5 : decode cX2_weigh 5 = .ok (.lload_n 3, 1) := by decide +kernel
theorem dX2_weigh_6 : decode cX2_weigh 6 = .ok (.ldc2_w 44, 3) := by decide +kernel
theorem dX2_weigh_9 : decode cX2_weigh 9 = .ok (.lcmp, 1) := by decide +kernel
theorem dX2_weigh_10 : decode cX2_weigh 10 = .ok (.ifCond .eq 7, 3) := by decide +kernel
theorem dX2_weigh_13 : decode cX2_weigh 13 = .ok (.iconst 1, 1) := by decide +kernel
theorem dX2_weigh_14 : decode cX2_weigh 14 = .ok (.goto 4, 3) := by decide +kernel
theorem dX2_weigh_17 : decode cX2_weigh 17 = .ok (.iconst 0, 1) := by decide +kernel
theorem dX2_weigh_18 : decode cX2_weigh 18 = .ok (.istore 5, 2) := by decide +kernel
theorem dX2_weigh_20 : decode cX2_weigh 20 = .ok (.lload_n 3, 1) := by decide +kernel
theorem dX2_weigh_21 : decode cX2_weigh 21 = .ok (.iload_n 1, 1) := by decide +kernel
theorem dX2_weigh_22 : decode cX2_weigh 22 = .ok (.invokestatic 46, 3) := by decide +kernel
theorem dX2_weigh_25 : decode cX2_weigh 25 = .ok (.lstore 6, 2) := by decide +kernel
theorem dX2_weigh_27 : decode cX2_weigh 27 = .ok (.iload 5, 2) := by decide +kernel
theorem dX2_weigh_29 : decode cX2_weigh 29 = .ok (.ifCond .eq 31, 3) := by decide +kernel
theorem dX2_weigh_32 : decode cX2_weigh 32 = .ok (.aload_n 0, 1) := by decide +kernel
theorem dX2_weigh_33 : decode cX2_weigh 33 = .ok (.invokevirtual 50, 3) := by decide +kernel
theorem dX2_weigh_36 : decode cX2_weigh 36 = .ok (.ifCond .eq 13, 3) := by decide +kernel
theorem dX2_weigh_39 : decode cX2_weigh 39 = .ok (.lload 6, 2) := by decide +kernel
theorem dX2_weigh_41 : decode cX2_weigh 41 = .ok (.aload_n 0, 1) := by decide +kernel
theorem dX2_weigh_42 : decode cX2_weigh 42 = .ok (.getfield 36, 3) := by decide +kernel
theorem dX2_weigh_45 : decode cX2_weigh 45 = .ok (.lcmp, 1) := by decide +kernel
theorem dX2_weigh_46 : decode cX2_weigh 46 = .ok (.ifCond .gt 14, 3) := by decide +kernel
theorem dX2_weigh_49 : decode cX2_weigh 49 = .ok (.aload_n 0, 1) := by decide +kernel
theorem dX2_weigh_50 : decode cX2_weigh 50 = .ok (.iload_n 2, 1) := by decide +kernel
theorem dX2_weigh_51 : decode cX2_weigh 51 = .ok (.putfield 18, 3) := by decide +kernel
theorem dX2_weigh_54 : decode cX2_weigh 54 = .ok (.aload_n 0, 1) := by decide +kernel
theorem dX2_weigh_55 : decode cX2_weigh 55 = .ok (.lload 6, 2) := by decide +kernel
theorem dX2_weigh_57 : decode cX2_weigh 57 = .ok (.putfield 36, 3) := by decide +kernel
theorem dX2_weigh_60 : decode cX2_weigh 60 = .ok (.iload 5, 2) := by decide +kernel
theorem dX2_weigh_62 : decode cX2_weigh 62 = .ok (.ifCond .eq 10, 3) := by decide +kernel
theorem dX2_weigh_65 : decode cX2_weigh 65 = .ok (.iload_n 1, 1) := by decide +kernel
theorem dX2_weigh_66 : decode cX2_weigh 66 = .ok (.sipush (-10000), 3) := by decide +kernel
theorem dX2_weigh_69 : decode cX2_weigh 69 = .ok (.if_icmp .gt 7, 3) := by decide +kernel
theorem dX2_weigh_72 : decode cX2_weigh 72 = .ok (.iconst 1, 1) := by decide +kernel
theorem dX2_weigh_73 : decode cX2_weigh 73 = .ok (.goto 4, 3) := by decide +kernel
theorem dX2_weigh_76 : decode cX2_weigh 76 = .ok (.iconst 0, 1) := by decide +kernel
theorem dX2_weigh_77 : decode cX2_weigh 77 = .ok (.ireturn, 1) := by decide +kernel
set_option maxRecDepth 20000 in
theorem ggX2_badnessNow_X4_total : GoodIn wsX2_badnessNow wsX4_total := goodIn_r _ [8, 9, 10, 34, 35, 36, 37, 38, 39] (by decide +kernel) (by decide +kernel)
set_option maxRecDepth 20000 in
theorem gX2_badnessNow_X4_total : GoodIn wsX2_badnessNow (wsV RX2 54 RX4 yX4_total wsX4_total) := goodIn_app (goodIn_of _ (by decide +kernel)) ggX2_badnessNow_X4_total
set_option maxRecDepth 20000 in
theorem ggX2_badnessNow_X5_badness : GoodIn wsX2_badnessNow wsX5_badness := goodIn_r _ [13, 14, 15, 16, 17, 18] (by decide +kernel) (by decide +kernel)
set_option maxRecDepth 20000 in
theorem gX2_badnessNow_X5_badness_n60 : GoodIn wsX2_badnessNow (wsX5_badness) := ggX2_badnessNow_X5_badness
set_option maxRecDepth 20000 in
theorem ggX2_badnessNow_X4_highestOrder : GoodIn wsX2_badnessNow wsX4_highestOrder := goodIn_r _ [22, 23, 34, 35, 36, 37, 38, 39] (by decide +kernel) (by decide +kernel)
set_option maxRecDepth 20000 in
theorem gX2_badnessNow_X4_highestOrder : GoodIn wsX2_badnessNow (wsV RX2 64 RX4 yX4_highestOrder wsX4_highestOrder) := goodIn_app (goodIn_of _ (by decide +kernel)) ggX2_badnessNow_X4_highestOrder
set_option maxRecDepth 20000 in
theorem ggX2_badnessNow_X4_stretchOf : GoodIn wsX2_badnessNow wsX4_stretchOf := goodIn_r _ [27, 23, 34, 35, 36, 37, 38, 39] (by decide +kernel) (by decide +kernel)
set_option maxRecDepth 20000 in
theorem gX2_badnessNow_X4_stretchOf : GoodIn wsX2_badnessNow (wsV RX2 68 RX4 yX4_stretchOf wsX4_stretchOf) := goodIn_app (goodIn_of _ (by decide +kernel)) ggX2_badnessNow_X4_stretchOf
theorem dX2_badnessNow_0 : decode cX2_badnessNow 0 = .ok (.aload_n 0, 1) := by decide +kernel
theorem dX2_badnessNow_1 : decode cX2_badnessNow 1 = .ok (.getfield 29, 3) := by decide +kernel
theorem dX2_badnessNow_4 : decode cX2_badnessNow 4 = .ok (.i2l, 1) := by decide +kernel
theorem dX2_badnessNow_5 : decode cX2_badnessNow 5 = .ok (.aload_n 0, 1) := by decide +kernel
theorem dX2_badnessNow_6 : decode cX2_badnessNow 6 = .ok (.getfield 12, 3) := by decide +kernel
theorem dX2_badnessNow_9 : decode cX2_badnessNow 9 = .ok (.invokevirtual 54, 3) := by decide +kernel
theorem dX2_badnessNow_12 : decode cX2_badnessNow 12 = .ok (.lsub, 1) := by decide +kernel
theorem dX2_badnessNow_13 : decode cX2_badnessNow 13 = .ok (.lstore_n 1, 1) := by decide +kernel
theorem dX2_badnessNow_14 : decode cX2_badnessNow 14 = .ok (.lload_n 1, 1) := by decide +kernel
theorem dX2_badnessNow_15 : decode cX2_badnessNow 15 = .ok (.lconst 0, 1) := by decide +kernel
theorem dX2_badnessNow_16 : decode cX2_badnessNow 16 = .ok (.lcmp, 1) := by decide +kernel
theorem dX2_badnessNow_17 : decode cX2_badnessNow 17 = .ok (.ifCond .ge 35, 3) := by decide +kernel
theorem dX2_badnessNow_20 : decode cX2_badnessNow 20 = .ok (.lload_n 1, 1) := by decide +kernel
theorem dX2_badnessNow_21 : decode cX2_badnessNow 21 = .ok (.lneg, 1) := by decide +kernel
theorem dX2_badnessNow_22 : decode cX2_badnessNow 22 = .ok (.aload_n 0, 1) := by decide +kernel
theorem dX2_badnessNow_23 : decode cX2_badnessNow 23 = .ok (.getfield 12, 3) := by decide +kernel
theorem dX2_badnessNow_26 : decode cX2_badnessNow 26 = .ok (.getfield 57, 3) := by decide +kernel
theorem dX2_badnessNow_29 : decode cX2_badnessNow 29 = .ok (.lcmp, 1) := by decide +kernel
theorem dX2_badnessNow_30 : decode cX2_badnessNow 30 = .ok (.ifCond .gt 18, 3) := by decide +kernel
theorem dX2_badnessNow_33 : decode cX2_badnessNow 33 = .ok (.lload_n 1, 1) := by decide +kernel
theorem dX2_badnessNow_34 : decode cX2_badnessNow 34 = .ok (.lneg, 1) := by decide +kernel
theorem dX2_badnessNow_35 : decode cX2_badnessNow 35 = .ok (.aload_n 0, 1) := by decide +kernel
theorem dX2_badnessNow_36 : decode cX2_badnessNow 36 = .ok (.getfield 12, 3) := by decide +kernel
theorem dX2_badnessNow_39 : decode cX2_badnessNow 39 = .ok (.getfield 57, 3) := by decide +kernel
theorem dX2_badnessNow_42 : decode cX2_badnessNow 42 = .ok (.invokestatic 60, 3) := by decide +kernel
theorem dX2_badnessNow_45 : decode cX2_badnessNow 45 = .ok (.goto 6, 3) := by decide +kernel
theorem dX2_badnessNow_48 : decode cX2_badnessNow 48 = .ok (.ldc2_w 44, 3) := by decide +kernel
theorem dX2_badnessNow_51 : decode cX2_badnessNow 51 = .ok (.lreturn, 1) := by decide +kernel
theorem dX2_badnessNow_52 : decode cX2_badnessNow 52 = .ok (.aload_n 0, 1) := by decide +kernel
theorem dX2_badnessNow_53 : decode cX2_badnessNow 53 = .ok (.getfield 12, 3) := by decide +kernel
theorem dX2_badnessNow_56 : decode cX2_badnessNow 56 = .ok (.invokevirtual 64, 3) := by decide +kernel
theorem dX2_badnessNow_59 : decode cX2_badnessNow 59 = .ok (.ifCond .le 7, 3) := by decide +kernel
theorem dX2_badnessNow_62 : decode cX2_badnessNow 62 = .ok (.lconst 0, 1) := by decide +kernel
theorem dX2_badnessNow_63 : decode cX2_badnessNow 63 = .ok (.goto 15, 3) := by decide +kernel
theorem dX2_badnessNow_66 : decode cX2_badnessNow 66 = .ok (.lload_n 1, 1) := by decide +kernel
theorem dX2_badnessNow_67 : decode cX2_badnessNow 67 = .ok (.aload_n 0, 1) := by decide +kernel
theorem dX2_badnessNow_68 : decode cX2_badnessNow 68 = .ok (.getfield 12, 3) := by decide +kernel
theorem dX2_badnessNow_71 : decode cX2_badnessNow 71 = .ok (.iconst 0, 1) := by decide +kernel
theorem dX2_badnessNow_72 : decode cX2_badnessNow 72 = .ok (.invokevirtual 68, 3) := by decide +kernel
theorem dX2_badnessNow_75 : decode cX2_badnessNow 75 = .ok (.invokestatic 60, 3) := by decide +kernel
theorem dX2_badnessNow_78 : decode cX2_badnessNow 78 = .ok (.lreturn, 1) := by decide +kernel
theorem dX2_costOf_0 : decode cX2_costOf 0 = .ok (.iload_n 2, 1) := by decide +kernel
theorem dX2_costOf_1 : decode cX2_costOf 1 = .ok (.sipush (-10000), 3) := by decide +kernel
theorem dX2_costOf_4 : decode cX2_costOf 4 = .ok (.if_icmp .gt 6, 3) := by decide +kernel
theorem dX2_costOf_7 : decode cX2_costOf 7 = .ok (.iload_n 2, 1) := by decide +kernel
theorem dX2_costOf_8 : decode cX2_costOf 8 = .ok (.i2l, 1) := by decide +kernel
theorem dX2_costOf_9 : decode cX2_costOf 9 = .ok (.lreturn, 1) := by decide +kernel
theorem dX2_costOf_10 : decode cX2_costOf 10 = .ok (.lload_n 0, 1) := by decide +kernel
theorem dX2_costOf_11 : decode cX2_costOf 11 = .ok (.ldc2_w 72, 3) := by decide +kernel
theorem dX2_costOf_14 : decode cX2_costOf 14 = .ok (.lcmp, 1) := by decide +kernel
theorem dX2_costOf_15 : decode cX2_costOf 15 = .ok (.ifCond .ge 10, 3) := by decide +kernel
theorem dX2_costOf_18 : decode cX2_costOf 18 = .ok (.lload_n 0, 1) := by decide +kernel
theorem dX2_costOf_19 : decode cX2_costOf 19 = .ok (.iload_n 2, 1) := by decide +kernel
theorem dX2_costOf_20 : decode cX2_costOf 20 = .ok (.i2l, 1) := by decide +kernel
theorem dX2_costOf_21 : decode cX2_costOf 21 = .ok (.ladd, 1) := by decide +kernel
theorem dX2_costOf_22 : decode cX2_costOf 22 = .ok (.goto 6, 3) := by decide +kernel
theorem dX2_costOf_25 : decode cX2_costOf 25 = .ok (.ldc2_w 74, 3) := by decide +kernel
theorem dX2_costOf_28 : decode cX2_costOf 28 = .ok (.lreturn, 1) := by decide +kernel
theorem dX3_init_0 : decode cX3_init 0 = .ok (.aload_n 0, 1) := by decide +kernel
theorem dX3_init_1 : decode cX3_init 1 = .ok (.invokespecial 3, 3) := by decide +kernel
theorem dX3_init_4 : decode cX3_init 4 = .ok (.aload_n 0, 1) := by decide +kernel
theorem dX3_init_5 : decode cX3_init 5 = .ok (.bipush 8, 2) := by decide +kernel
theorem dX3_init_7 : decode cX3_init 7 = .ok (.anewarray 9, 3) := by decide +kernel
theorem dX3_init_10 : decode cX3_init 10 = .ok (.putfield 11, 3) := by decide +kernel
theorem dX3_init_13 : decode cX3_init 13 = .ok (.return_, 1) := by decide +kernel
set_option maxRecDepth 20000 in
theorem ggX3_put_J9_floorMod_7cf53 : GoodIn wsX3_put wsJ9_floorMod_7cf53 := goodIn_r _ [15] (by decide +kernel) (by decide +kernel)
set_option maxRecDepth 20000 in
theorem gX3_put_J9_floorMod_7cf53 : GoodIn wsX3_put (va_wsS RX3 21 yJ9_floorMod_7cf53 wsJ9_floorMod_7cf53) := goodIn_app (goodIn_of _ (by decide +kernel)) ggX3_put_J9_floorMod_7cf53
set_option maxRecDepth 20000 in
theorem ggX3_put_X1_init : GoodIn wsX3_put wsX1_init := goodIn_r _ [17, 18, 19, 20, 21, 22, 23, 24, 25, 26, 27, 28, 29, 30, 133, 134, 129, 130, 131, 132] (by decide +kernel) (by decide +kernel)
set_option maxRecDepth 20000 in
theorem gX3_put_X1_init_n36 : GoodIn wsX3_put (wsX1_init) := ggX3_put_X1_init
set_option maxRecDepth 20000 in
theorem ggX3_put_X1_make : GoodIn wsX3_put wsX1_make := goodIn_r _ [34, 24, 35, 36, 37, 38, 39, 40, 23, 41, 42, 30, 43, 44, 45, 46, 47, 48, 49, 50, 51, 52, 5, 53, 54, 4, 6, 55, 56, 57, 58, 59, 60, 61, 62, 63, 64, 29, 65, 66, 67, 68, 69, 70, 71, 72, 73, 74, 75, 76, 11, 77, 78, 79, 80, 81, 82, 83, 84, 85, 86, 87, 88, 89, 90, 91, 92, 93, 94, 95, 96, 97, 98, 99, 100, 101, 102, 103, 104, 105, 106, 107, 108, 109, 110, 111, 112, 113, 114, 115, 116, 117, 118, 119, 120, 121, 122, 123, 124, 129, 130, 131, 132, 135, 136, 137, 138, 139, 140, 133, 134] (by decide +kernel) (by decide +kernel)
set_option maxRecDepth 20000 in
theorem gX3_put_X1_make : GoodIn wsX3_put (wsV RX3 37 RX1 yX1_make wsX1_make) := goodIn_app (goodIn_of _ (by decide +kernel)) ggX3_put_X1_make
theorem dX3_put_0 : decode cX3_put 0 = .ok (.aload_n 0, 1) := by decide +kernel
theorem dX3_put_1 : decode cX3_put 1 = .ok (.aload_n 0, 1) := by decide +kernel
theorem dX3_put_2 : decode cX3_put 2 = .ok (.getfield 17, 3) := by decide +kernel
theorem dX3_put_5 : decode cX3_put 5 = .ok (.iconst 1, 1) := by decide +kernel
theorem dX3_put_6 : decode cX3_put 6 = .ok (.iadd, 1) := by decide +kernel
theorem dX3_put_7 : decode cX3_put 7 = .ok (.bipush 8, 2) := by decide +kernel
theorem dX3_put_9 : decode cX3_put 9 = .ok (.invokestatic 21, 3) := by decide +kernel
theorem dX3_put_12 : decode cX3_put 12 = .ok (.putfield 17, 3) := by decide +kernel
theorem dX3_put_15 : decode cX3_put 15 = .ok (.aload_n 0, 1) := by decide +kernel
theorem dX3_put_16 : decode cX3_put 16 = .ok (.bipush 8, 2) := by decide +kernel
theorem dX3_put_18 : decode cX3_put 18 = .ok (.aload_n 0, 1) := by decide +kernel
theorem dX3_put_19 : decode cX3_put 19 = .ok (.getfield 27, 3) := by decide +kernel
theorem dX3_put_22 : decode cX3_put 22 = .ok (.iconst 1, 1) := by decide +kernel
theorem dX3_put_23 : decode cX3_put 23 = .ok (.iadd, 1) := by decide +kernel
theorem dX3_put_24 : decode cX3_put 24 = .ok (.invokestatic 30, 3) := by decide +kernel
theorem dX3_put_27 : decode cX3_put 27 = .ok (.putfield 27, 3) := by decide +kernel
theorem dX3_put_30 : decode cX3_put 30 = .ok (.aload_n 0, 1) := by decide +kernel
theorem dX3_put_31 : decode cX3_put 31 = .ok (.dup, 1) := by decide +kernel
theorem dX3_put_32 : decode cX3_put 32 = .ok (.getfield 33, 3) := by decide +kernel
theorem dX3_put_35 : decode cX3_put 35 = .ok (.iconst 1, 1) := by decide +kernel
theorem dX3_put_36 : decode cX3_put 36 = .ok (.iadd, 1) := by decide +kernel
theorem dX3_put_37 : decode cX3_put 37 = .ok (.putfield 33, 3) := by decide +kernel
theorem dX3_put_40 : decode cX3_put 40 = .ok (.aload_n 0, 1) := by decide +kernel
theorem dX3_put_41 : decode cX3_put 41 = .ok (.getfield 11, 3) := by decide +kernel
theorem dX3_put_44 : decode cX3_put 44 = .ok (.aload_n 0, 1) := by decide +kernel
theorem dX3_put_45 : decode cX3_put 45 = .ok (.getfield 17, 3) := by decide +kernel
theorem dX3_put_48 : decode cX3_put 48 = .ok (.aaload, 1) := by decide +kernel
theorem dX3_put_49 : decode cX3_put 49 = .ok (.astore 6, 2) := by decide +kernel
theorem dX3_put_51 : decode cX3_put 51 = .ok (.aload 6, 2) := by decide +kernel
theorem dX3_put_53 : decode cX3_put 53 = .ok (.ifnonnull 23, 3) := by decide +kernel
theorem dX3_put_56 : decode cX3_put 56 = .ok (.new 9, 3) := by decide +kernel
theorem dX3_put_59 : decode cX3_put 59 = .ok (.dup, 1) := by decide +kernel
theorem dX3_put_60 : decode cX3_put 60 = .ok (.invokespecial 36, 3) := by decide +kernel
theorem dX3_put_63 : decode cX3_put 63 = .ok (.astore 6, 2) := by decide +kernel
theorem dX3_put_65 : decode cX3_put 65 = .ok (.aload_n 0, 1) := by decide +kernel
theorem dX3_put_66 : decode cX3_put 66 = .ok (.getfield 11, 3) := by decide +kernel
theorem dX3_put_69 : decode cX3_put 69 = .ok (.aload_n 0, 1) := by decide +kernel
theorem dX3_put_70 : decode cX3_put 70 = .ok (.getfield 17, 3) := by decide +kernel
theorem dX3_put_73 : decode cX3_put 73 = .ok (.aload 6, 2) := by decide +kernel
theorem dX3_put_75 : decode cX3_put 75 = .ok (.aastore, 1) := by decide +kernel
theorem dX3_put_76 : decode cX3_put 76 = .ok (.aload 6, 2) := by decide +kernel
theorem dX3_put_78 : decode cX3_put 78 = .ok (.aload_n 1, 1) := by decide +kernel
theorem dX3_put_79 : decode cX3_put 79 = .ok (.iload_n 2, 1) := by decide +kernel
theorem dX3_put_80 : decode cX3_put 80 = .ok (.iload_n 3, 1) := by decide +kernel
theorem dX3_put_81 : decode cX3_put 81 = .ok (.iload 4, 2) := by decide +kernel
theorem dX3_put_83 : decode cX3_put 83 = .ok (.aload 5, 2) := by decide +kernel
theorem dX3_put_85 : decode cX3_put 85 = .ok (.invokevirtual 37, 3) := by decide +kernel
theorem dX3_put_88 : decode cX3_put 88 = .ok (.return_, 1) := by decide +kernel
set_option maxRecDepth 20000 in
theorem ggX3_madePage_J9_floorMod_7cf53 : GoodIn wsX3_madePage wsJ9_floorMod_7cf53 := goodIn_r _ [7] (by decide +kernel) (by decide +kernel)
set_option maxRecDepth 20000 in
theorem gX3_madePage_J9_floorMod_7cf53 : GoodIn wsX3_madePage (va_wsS RX3 21 yJ9_floorMod_7cf53 wsJ9_floorMod_7cf53) := goodIn_app (goodIn_of _ (by decide +kernel)) ggX3_madePage_J9_floorMod_7cf53
theorem dX3_madePage_0 : decode cX3_madePage 0 = .ok (.iload_n 1, 1) := by decide +kernel
theorem dX3_madePage_1 : decode cX3_madePage 1 = .ok (.ifCond .lt 30, 3) := by decide +kernel
theorem dX3_madePage_4 : decode cX3_madePage 4 = .ok (.iload_n 1, 1) := by decide +kernel
theorem dX3_madePage_5 : decode cX3_madePage 5 = .ok (.aload_n 0, 1) := by decide +kernel
theorem dX3_madePage_6 : decode cX3_madePage 6 = .ok (.getfield 27, 3) := by decide +kernel
theorem dX3_madePage_9 : decode cX3_madePage 9 = .ok (.if_icmp .ge 22, 3) := by decide +kernel
theorem dX3_madePage_12 : decode cX3_madePage 12 = .ok (.aload_n 0, 1) := by decide +kernel
theorem dX3_madePage_13 : decode cX3_madePage 13 = .ok (.getfield 11, 3) := by decide +kernel
theorem dX3_madePage_16 : decode cX3_madePage 16 = .ok (.aload_n 0, 1) := by decide +kernel
theorem dX3_madePage_17 : decode cX3_madePage 17 = .ok (.getfield 17, 3) := by decide +kernel
theorem dX3_madePage_20 : decode cX3_madePage 20 = .ok (.iload_n 1, 1) := by decide +kernel
theorem dX3_madePage_21 : decode cX3_madePage 21 = .ok (.isub, 1) := by decide +kernel
theorem dX3_madePage_22 : decode cX3_madePage 22 = .ok (.bipush 8, 2) := by decide +kernel
theorem dX3_madePage_24 : decode cX3_madePage 24 = .ok (.invokestatic 21, 3) := by decide +kernel
theorem dX3_madePage_27 : decode cX3_madePage 27 = .ok (.aaload, 1) := by decide +kernel
theorem dX3_madePage_28 : decode cX3_madePage 28 = .ok (.goto 4, 3) := by decide +kernel
theorem dX3_madePage_31 : decode cX3_madePage 31 = .ok (.aconst_null, 1) := by decide +kernel
theorem dX3_madePage_32 : decode cX3_madePage 32 = .ok (.areturn, 1) := by decide +kernel
set_option maxRecDepth 20000 in
theorem ggX3_held_X3_madePage : GoodIn wsX3_held wsX3_madePage := goodIn_r _ [6, 1, 7, 8, 9, 10, 11, 12, 19, 20, 21, 22] (by decide +kernel) (by decide +kernel)
set_option maxRecDepth 20000 in
theorem gX3_held_X3_madePage : GoodIn wsX3_held (wsV RX3 41 RX3 yX3_madePage wsX3_madePage) := goodIn_app (goodIn_of _ (by decide +kernel)) ggX3_held_X3_madePage
set_option maxRecDepth 20000 in
theorem ggX3_held_X0_size : GoodIn wsX3_held wsX0_size := goodIn_r _ [17, 18, 27, 28] (by decide +kernel) (by decide +kernel)
set_option maxRecDepth 20000 in
theorem gX3_held_X0_size : GoodIn wsX3_held (wsV RX3 49 RX0 yX0_size wsX0_size) := goodIn_app (goodIn_of _ (by decide +kernel)) ggX3_held_X0_size
theorem dX3_held_0 : decode cX3_held 0 = .ok (.aload_n 0, 1) := by decide +kernel
theorem dX3_held_1 : decode cX3_held 1 = .ok (.getfield 27, 3) := by decide +kernel
theorem dX3_held_4 : decode cX3_held 4 = .ok (.istore_n 1, 1) := by decide +kernel
theorem dX3_held_5 : decode cX3_held 5 = .ok (.iconst 0, 1) := by decide +kernel
theorem dX3_held_6 : decode cX3_held 6 = .ok (.istore_n 2, 1) := by decide +kernel
theorem dX3_held_7 : decode cX3_held 7 = .ok (.iload_n 2, 1) := by decide +kernel
theorem dX3_held_8 : decode cX3_held 8 = .ok (.aload_n 0, 1) := by decide +kernel
theorem dX3_held_9 : decode cX3_held 9 = .ok (.getfield 27, 3) := by decide +kernel
theorem dX3_held_12 : decode cX3_held 12 = .ok (.if_icmp .ge 33, 3) := by decide +kernel
theorem dX3_held_15 : decode cX3_held 15 = .ok (.aload_n 0, 1) := by decide +kernel
theorem dX3_held_16 : decode cX3_held 16 = .ok (.iload_n 2, 1) := by decide +kernel
theorem dX3_held_17 : decode cX3_held 17 = .ok (.invokevirtual 41, 3) := by decide +kernel
theorem dX3_held_20 : decode cX3_held 20 = .ok (.astore_n 3, 1) := by decide +kernel
theorem dX3_held_21 : decode cX3_held 21 = .ok (.iload_n 1, 1) := by decide +kernel
theorem dX3_held_22 : decode cX3_held 22 = .ok (.aload_n 3, 1) := by decide +kernel
theorem dX3_held_23 : decode cX3_held 23 = .ok (.ifnonnull 7, 3) := by decide +kernel
theorem dX3_held_26 : decode cX3_held 26 = .ok (.iconst 0, 1) := by decide +kernel
theorem dX3_held_27 : decode cX3_held 27 = .ok (.goto 10, 3) := by decide +kernel
theorem dX3_held_30 : decode cX3_held 30 = .ok (.aload_n 3, 1) := by decide +kernel
theorem dX3_held_31 : decode cX3_held 31 = .ok (.getfield 45, 3) := by decide +kernel
theorem dX3_held_34 : decode cX3_held 34 = .ok (.invokevirtual 49, 3) := by decide +kernel
theorem dX3_held_37 : decode cX3_held 37 = .ok (.iadd, 1) := by decide +kernel
theorem dX3_held_38 : decode cX3_held 38 = .ok (.istore_n 1, 1) := by decide +kernel
theorem dX3_held_39 : decode cX3_held 39 = .ok (.iinc 2 1, 3) := by decide +kernel
theorem dX3_held_42 : decode cX3_held 42 = .ok (.goto (-35), 3) := by decide +kernel
theorem dX3_held_45 : decode cX3_held 45 = .ok (.iload_n 1, 1) := by decide +kernel
theorem dX3_held_46 : decode cX3_held 46 = .ok (.ireturn, 1) := by decide +kernel
theorem dX3_clear_0 : decode cX3_clear 0 = .ok (.aload_n 0, 1) := by decide +kernel
theorem dX3_clear_1 : decode cX3_clear 1 = .ok (.iconst 0, 1) := by decide +kernel
theorem dX3_clear_2 : decode cX3_clear 2 = .ok (.putfield 27, 3) := by decide +kernel
theorem dX3_clear_5 : decode cX3_clear 5 = .ok (.return_, 1) := by decide +kernel
theorem dX4_init_0 : decode cX4_init 0 = .ok (.aload_n 0, 1) := by decide +kernel
theorem dX4_init_1 : decode cX4_init 1 = .ok (.invokespecial 3, 3) := by decide +kernel
theorem dX4_init_4 : decode cX4_init 4 = .ok (.aload_n 0, 1) := by decide +kernel
theorem dX4_init_5 : decode cX4_init 5 = .ok (.iconst 4, 1) := by decide +kernel
theorem dX4_init_6 : decode cX4_init 6 = .ok (.newarray .long, 2) := by decide +kernel
theorem dX4_init_8 : decode cX4_init 8 = .ok (.putfield 9, 3) := by decide +kernel
theorem dX4_init_11 : decode cX4_init 11 = .ok (.return_, 1) := by decide +kernel
set_option maxRecDepth 20000 in
theorem ggX4_clear_J7_fill_d0a16 : GoodIn wsX4_clear wsJ7_fill_d0a16 := goodIn_r _ [10] (by decide +kernel) (by decide +kernel)
set_option maxRecDepth 20000 in
theorem gX4_clear_J7_fill_d0a16 : GoodIn wsX4_clear (va_wsS RX4 15 yJ7_fill_d0a16 wsJ7_fill_d0a16) := goodIn_app (goodIn_of _ (by decide +kernel)) ggX4_clear_J7_fill_d0a16
theorem dX4_clear_0 : decode cX4_clear 0 = .ok (.aload_n 0, 1) := by decide +kernel
theorem dX4_clear_1 : decode cX4_clear 1 = .ok (.getfield 9, 3) := by decide +kernel
theorem dX4_clear_4 : decode cX4_clear 4 = .ok (.lconst 0, 1) := by decide +kernel
theorem dX4_clear_5 : decode cX4_clear 5 = .ok (.invokestatic 15, 3) := by decide +kernel
theorem dX4_clear_8 : decode cX4_clear 8 = .ok (.aload_n 0, 1) := by decide +kernel
theorem dX4_clear_9 : decode cX4_clear 9 = .ok (.lconst 0, 1) := by decide +kernel
theorem dX4_clear_10 : decode cX4_clear 10 = .ok (.putfield 21, 3) := by decide +kernel
theorem dX4_clear_13 : decode cX4_clear 13 = .ok (.aload_n 0, 1) := by decide +kernel
theorem dX4_clear_14 : decode cX4_clear 14 = .ok (.lconst 0, 1) := by decide +kernel
theorem dX4_clear_15 : decode cX4_clear 15 = .ok (.putfield 25, 3) := by decide +kernel
theorem dX4_clear_18 : decode cX4_clear 18 = .ok (.aload_n 0, 1) := by decide +kernel
theorem dX4_clear_19 : decode cX4_clear 19 = .ok (.lconst 0, 1) := by decide +kernel
theorem dX4_clear_20 : decode cX4_clear 20 = .ok (.putfield 28, 3) := by decide +kernel
theorem dX4_clear_23 : decode cX4_clear 23 = .ok (.aload_n 0, 1) := by decide +kernel
theorem dX4_clear_24 : decode cX4_clear 24 = .ok (.lconst 0, 1) := by decide +kernel
theorem dX4_clear_25 : decode cX4_clear 25 = .ok (.putfield 31, 3) := by decide +kernel
theorem dX4_clear_28 : decode cX4_clear 28 = .ok (.aload_n 0, 1) := by decide +kernel
theorem dX4_clear_29 : decode cX4_clear 29 = .ok (.iload_n 1, 1) := by decide +kernel
theorem dX4_clear_30 : decode cX4_clear 30 = .ok (.putfield 34, 3) := by decide +kernel
theorem dX4_clear_33 : decode cX4_clear 33 = .ok (.return_, 1) := by decide +kernel
set_option maxRecDepth 20000 in
theorem ggX4_take_X0_at : GoodIn wsX4_take wsX0_at := goodIn_r _ [7, 8, 9, 36, 37] (by decide +kernel) (by decide +kernel)
set_option maxRecDepth 20000 in
theorem gX4_take_X0_at : GoodIn wsX4_take (wsV RX4 38 RX0 yX0_at wsX0_at) := goodIn_app (goodIn_of _ (by decide +kernel)) ggX4_take_X0_at
set_option maxRecDepth 20000 in
theorem ggX4_take_X4_takeSolid : GoodIn wsX4_take wsX4_takeSolid := goodIn_r _ [14, 2, 15, 16, 17, 18, 19, 1, 20, 21, 22, 23, 3, 4, 5, 6, 7, 8, 9, 30, 31, 32, 33, 34, 35, 36, 37] (by decide +kernel) (by decide +kernel)
set_option maxRecDepth 20000 in
theorem gX4_take_X4_takeSolid : GoodIn wsX4_take (wsV RX4 44 RX4 yX4_takeSolid wsX4_takeSolid) := goodIn_app (goodIn_of _ (by decide +kernel)) ggX4_take_X4_takeSolid
set_option maxRecDepth 20000 in
theorem ggX4_take_X4_takeGlue : GoodIn wsX4_take wsX4_takeGlue := goodIn_r _ [27, 2, 28, 29, 3, 4, 5, 6, 7, 8, 9, 30, 31, 32, 33, 34, 35, 36, 37] (by decide +kernel) (by decide +kernel)
set_option maxRecDepth 20000 in
theorem gX4_take_X4_takeGlue : GoodIn wsX4_take (wsV RX4 48 RX4 yX4_takeGlue wsX4_takeGlue) := goodIn_app (goodIn_of _ (by decide +kernel)) ggX4_take_X4_takeGlue
theorem dX4_take_0 : decode cX4_take 0 = .ok (.aload_n 0, 1) := by decide +kernel
theorem dX4_take_1 : decode cX4_take 1 = .ok (.lconst 0, 1) := by decide +kernel
theorem dX4_take_2 : decode cX4_take 2 = .ok (.putfield 28, 3) := by decide +kernel
theorem dX4_take_5 : decode cX4_take 5 = .ok (.aload_n 1, 1) := by decide +kernel
theorem dX4_take_6 : decode cX4_take 6 = .ok (.iload_n 2, 1) := by decide +kernel
theorem dX4_take_7 : decode cX4_take 7 = .ok (.iconst 0, 1) := by decide +kernel
theorem dX4_take_8 : decode cX4_take 8 = .ok (.invokevirtual 38, 3) := by decide +kernel
theorem dX4_take_11 : decode cX4_take 11 = .ok (.tableswitch 70 2 6 #[33, 70, 33, 42, 51], 33) := by decide +kernel
theorem dX4_take_44 : decode cX4_take 44 = .ok (.aload_n 0, 1) := by decide +kernel
theorem dX4_take_45 : decode cX4_take 45 = .ok (.aload_n 1, 1) := by decide +kernel
theorem dX4_take_46 : decode cX4_take 46 = .ok (.iload_n 2, 1) := by decide +kernel
theorem dX4_take_47 : decode cX4_take 47 = .ok (.invokevirtual 44, 3) := by decide +kernel
theorem dX4_take_50 : decode cX4_take 50 = .ok (.goto 31, 3) := by decide +kernel
theorem dX4_take_53 : decode cX4_take 53 = .ok (.aload_n 0, 1) := by decide +kernel
theorem dX4_take_54 : decode cX4_take 54 = .ok (.aload_n 1, 1) := by decide +kernel
theorem dX4_take_55 : decode cX4_take 55 = .ok (.iload_n 2, 1) := by decide +kernel
theorem dX4_take_56 : decode cX4_take 56 = .ok (.invokevirtual 48, 3) := by decide +kernel
theorem dX4_take_59 : decode cX4_take 59 = .ok (.goto 22, 3) := by decide +kernel
theorem dX4_take_62 : decode cX4_take 62 = .ok (.aload_n 0, 1) := by decide +kernel
theorem dX4_take_63 : decode cX4_take 63 = .ok (.dup, 1) := by decide +kernel
theorem dX4_take_64 : decode cX4_take 64 = .ok (.getfield 25, 3) := by decide +kernel
theorem dX4_take_67 : decode cX4_take 67 = .ok (.aload_n 1, 1) := by decide +kernel
theorem dX4_take_68 : decode cX4_take 68 = .ok (.iload_n 2, 1) := by decide +kernel
theorem dX4_take_69 : decode cX4_take 69 = .ok (.iconst 1, 1) := by decide +kernel
theorem dX4_take_70 : decode cX4_take 70 = .ok (.invokevirtual 38, 3) := by decide +kernel
theorem dX4_take_73 : decode cX4_take 73 = .ok (.i2l, 1) := by decide +kernel
theorem dX4_take_74 : decode cX4_take 74 = .ok (.ladd, 1) := by decide +kernel
theorem dX4_take_75 : decode cX4_take 75 = .ok (.putfield 25, 3) := by decide +kernel
theorem dX4_take_78 : decode cX4_take 78 = .ok (.goto 3, 3) := by decide +kernel
theorem dX4_take_81 : decode cX4_take 81 = .ok (.return_, 1) := by decide +kernel
set_option maxRecDepth 20000 in
theorem ggX4_takeSolid_X0_at : GoodIn wsX4_takeSolid wsX0_at := goodIn_r _ [16, 17, 18, 25, 26] (by decide +kernel) (by decide +kernel)
set_option maxRecDepth 20000 in
theorem gX4_takeSolid_X0_at : GoodIn wsX4_takeSolid (wsV RX4 38 RX0 yX0_at wsX0_at) := goodIn_app (goodIn_of _ (by decide +kernel)) ggX4_takeSolid_X0_at
theorem dX4_takeSolid_0 : decode cX4_takeSolid 0 = .ok (.aload_n 1, 1) := by decide +kernel
theorem dX4_takeSolid_1 : decode cX4_takeSolid 1 = .ok (.iload_n 2, 1) := by decide +kernel
theorem dX4_takeSolid_2 : decode cX4_takeSolid 2 = .ok (.iconst 3, 1) := by decide +kernel
theorem dX4_takeSolid_3 : decode cX4_takeSolid 3 = .ok (.invokevirtual 38, 3) := by decide +kernel
theorem dX4_takeSolid_6 : decode cX4_takeSolid 6 = .ok (.i2l, 1) := by decide +kernel
theorem dX4_takeSolid_7 : decode cX4_takeSolid 7 = .ok (.lstore_n 3, 1) := by decide +kernel
theorem dX4_takeSolid_8 : decode cX4_takeSolid 8 = .ok (.aload_n 0, 1) := by decide +kernel
theorem dX4_takeSolid_9 : decode cX4_takeSolid 9 = .ok (.dup, 1) := by decide +kernel
theorem dX4_takeSolid_10 : decode cX4_takeSolid 10 = .ok (.getfield 25, 3) := by decide +kernel
theorem dX4_takeSolid_13 : decode cX4_takeSolid 13 = .ok (.aload_n 1, 1) := by decide +kernel
theorem dX4_takeSolid_14 : decode cX4_takeSolid 14 = .ok (.iload_n 2, 1) := by decide +kernel
theorem dX4_takeSolid_15 : decode cX4_takeSolid 15 = .ok (.iconst 2, 1) := by decide +kernel
theorem dX4_takeSolid_16 : decode cX4_takeSolid 16 = .ok (.invokevirtual 38, 3) := by decide +kernel
theorem dX4_takeSolid_19 : decode cX4_takeSolid 19 = .ok (.i2l, 1) := by decide +kernel
theorem dX4_takeSolid_20 : decode cX4_takeSolid 20 = .ok (.lload_n 3, 1) := by decide +kernel
theorem dX4_takeSolid_21 : decode cX4_takeSolid 21 = .ok (.ladd, 1) := by decide +kernel
theorem dX4_takeSolid_22 : decode cX4_takeSolid 22 = .ok (.ladd, 1) := by decide +kernel
theorem dX4_takeSolid_23 : decode cX4_takeSolid 23 = .ok (.putfield 25, 3) := by decide +kernel
theorem dX4_takeSolid_26 : decode cX4_takeSolid 26 = .ok (.aload_n 0, 1) := by decide +kernel
theorem dX4_takeSolid_27 : decode cX4_takeSolid 27 = .ok (.lload_n 3, 1) := by decide +kernel
theorem dX4_takeSolid_28 : decode cX4_takeSolid 28 = .ok (.aload_n 0, 1) := by decide +kernel
theorem dX4_takeSolid_29 : decode cX4_takeSolid 29 = .ok (.getfield 34, 3) := by decide +kernel
theorem dX4_takeSolid_32 : decode cX4_takeSolid 32 = .ok (.i2l, 1) := by decide +kernel
theorem dX4_takeSolid_33 : decode cX4_takeSolid 33 = .ok (.invokestatic 51, 3) := by decide +kernel
theorem dX4_takeSolid_36 : decode cX4_takeSolid 36 = .ok (.putfield 28, 3) := by decide +kernel
theorem dX4_takeSolid_39 : decode cX4_takeSolid 39 = .ok (.aload_n 0, 1) := by decide +kernel
theorem dX4_takeSolid_40 : decode cX4_takeSolid 40 = .ok (.aload_n 0, 1) := by decide +kernel
theorem dX4_takeSolid_41 : decode cX4_takeSolid 41 = .ok (.getfield 31, 3) := by decide +kernel
theorem dX4_takeSolid_44 : decode cX4_takeSolid 44 = .ok (.aload_n 1, 1) := by decide +kernel
theorem dX4_takeSolid_45 : decode cX4_takeSolid 45 = .ok (.iload_n 2, 1) := by decide +kernel
theorem dX4_takeSolid_46 : decode cX4_takeSolid 46 = .ok (.iconst 1, 1) := by decide +kernel
theorem dX4_takeSolid_47 : decode cX4_takeSolid 47 = .ok (.invokevirtual 38, 3) := by decide +kernel
theorem dX4_takeSolid_50 : decode cX4_takeSolid 50 = .ok (.i2l, 1) := by decide +kernel
theorem dX4_takeSolid_51 : decode cX4_takeSolid 51 = .ok (.aload_n 1, 1) := by decide +kernel
theorem dX4_takeSolid_52 : decode cX4_takeSolid 52 = .ok (.iload_n 2, 1) := by decide +kernel
theorem dX4_takeSolid_53 : decode cX4_takeSolid 53 = .ok (.iconst 4, 1) := by decide +kernel
theorem dX4_takeSolid_54 : decode cX4_takeSolid 54 = .ok (.invokevirtual 38, 3) := by decide +kernel
theorem dX4_takeSolid_57 : decode cX4_takeSolid 57 = .ok (.i2l, 1) := by decide +kernel
theorem dX4_takeSolid_58 : decode cX4_takeSolid 58 = .ok (.ladd, 1) := by decide +kernel
theorem dX4_takeSolid_59 : decode cX4_takeSolid 59 = .ok (.invokestatic 57, 3) := by decide +kernel
theorem dX4_takeSolid_62 : decode cX4_takeSolid 62 = .ok (.putfield 31, 3) := by decide +kernel
theorem dX4_takeSolid_65 : decode cX4_takeSolid 65 = .ok (.return_, 1) := by decide +kernel
set_option maxRecDepth 20000 in
theorem ggX4_takeGlue_X0_at : GoodIn wsX4_takeGlue wsX0_at := goodIn_r _ [8, 9, 10, 17, 18] (by decide +kernel) (by decide +kernel)
set_option maxRecDepth 20000 in
theorem gX4_takeGlue_X0_at : GoodIn wsX4_takeGlue (wsV RX4 38 RX0 yX0_at wsX0_at) := goodIn_app (goodIn_of _ (by decide +kernel)) ggX4_takeGlue_X0_at
theorem dX4_takeGlue_0 : decode cX4_takeGlue 0 = .ok (.aload_n 0, 1) := by decide +kernel
theorem dX4_takeGlue_1 : decode cX4_takeGlue 1 = .ok (.dup, 1) := by decide +kernel
theorem dX4_takeGlue_2 : decode cX4_takeGlue 2 = .ok (.getfield 25, 3) := by decide +kernel
theorem dX4_takeGlue_5 : decode cX4_takeGlue 5 = .ok (.aload_n 1, 1) := by decide +kernel
theorem dX4_takeGlue_6 : decode cX4_takeGlue 6 = .ok (.iload_n 2, 1) := by decide +kernel
theorem dX4_takeGlue_7 : decode cX4_takeGlue 7 = .ok (.iconst 1, 1) := by decide +kernel
theorem dX4_takeGlue_8 : decode cX4_takeGlue 8 = .ok (.invokevirtual 38, 3) := by decide +kernel
theorem dX4_takeGlue_11 : decode cX4_takeGlue 11 = .ok (.i2l, 1) := by decide +kernel
theorem dX4_takeGlue_12 : decode cX4_takeGlue 12 = .ok (.ladd, 1) := by decide +kernel
theorem dX4_takeGlue_13 : decode cX4_takeGlue 13 = .ok (.putfield 25, 3) := by decide +kernel
theorem dX4_takeGlue_16 : decode cX4_takeGlue 16 = .ok (.aload_n 0, 1) := by decide +kernel
theorem dX4_takeGlue_17 : decode cX4_takeGlue 17 = .ok (.dup, 1) := by decide +kernel
theorem dX4_takeGlue_18 : decode cX4_takeGlue 18 = .ok (.getfield 21, 3) := by decide +kernel
theorem dX4_takeGlue_21 : decode cX4_takeGlue 21 = .ok (.aload_n 1, 1) := by decide +kernel
theorem dX4_takeGlue_22 : decode cX4_takeGlue 22 = .ok (.iload_n 2, 1) := by decide +kernel
theorem dX4_takeGlue_23 : decode cX4_takeGlue 23 = .ok (.bipush 7, 2) := by decide +kernel
theorem dX4_takeGlue_25 : decode cX4_takeGlue 25 = .ok (.invokevirtual 38, 3) := by decide +kernel
theorem dX4_takeGlue_28 : decode cX4_takeGlue 28 = .ok (.i2l, 1) := by decide +kernel
theorem dX4_takeGlue_29 : decode cX4_takeGlue 29 = .ok (.ladd, 1) := by decide +kernel
theorem dX4_takeGlue_30 : decode cX4_takeGlue 30 = .ok (.putfield 21, 3) := by decide +kernel
theorem dX4_takeGlue_33 : decode cX4_takeGlue 33 = .ok (.aload_n 1, 1) := by decide +kernel
theorem dX4_takeGlue_34 : decode cX4_takeGlue 34 = .ok (.iload_n 2, 1) := by decide +kernel
theorem dX4_takeGlue_35 : decode cX4_takeGlue 35 = .ok (.bipush 6, 2) := by decide +kernel
theorem dX4_takeGlue_37 : decode cX4_takeGlue 37 = .ok (.invokevirtual 38, 3) := by decide +kernel
theorem dX4_takeGlue_40 : decode cX4_takeGlue 40 = .ok (.istore_n 3, 1) := by decide +kernel
theorem dX4_takeGlue_41 : decode cX4_takeGlue 41 = .ok (.iload_n 3, 1) := by decide +kernel
theorem dX4_takeGlue_42 : decode cX4_takeGlue 42 = .ok (.ifCond .lt 24, 3) := by decide +kernel
theorem dX4_takeGlue_45 : decode cX4_takeGlue 45 = .ok (.iload_n 3, 1) := by decide +kernel
theorem dX4_takeGlue_46 : decode cX4_takeGlue 46 = .ok (.iconst 4, 1) := by decide +kernel
theorem dX4_takeGlue_47 : decode cX4_takeGlue 47 = .ok (.if_icmp .ge 19, 3) := by decide +kernel
theorem dX4_takeGlue_50 : decode cX4_takeGlue 50 = .ok (.aload_n 0, 1) := by decide +kernel
theorem dX4_takeGlue_51 : decode cX4_takeGlue 51 = .ok (.getfield 9, 3) := by decide +kernel
theorem dX4_takeGlue_54 : decode cX4_takeGlue 54 = .ok (.iload_n 3, 1) := by decide +kernel
theorem dX4_takeGlue_55 : decode cX4_takeGlue 55 = .ok (.dup2, 1) := by decide +kernel
theorem dX4_takeGlue_56 : decode cX4_takeGlue 56 = .ok (.laload, 1) := by decide +kernel
theorem dX4_takeGlue_57 : decode cX4_takeGlue 57 = .ok (.aload_n 1, 1) := by decide +kernel
theorem dX4_takeGlue_58 : decode cX4_takeGlue 58 = .ok (.iload_n 2, 1) := by decide +kernel
theorem dX4_takeGlue_59 : decode cX4_takeGlue 59 = .ok (.iconst 5, 1) := by decide +kernel
theorem dX4_takeGlue_60 : decode cX4_takeGlue 60 = .ok (.invokevirtual 38, 3) := by decide +kernel
theorem dX4_takeGlue_63 : decode cX4_takeGlue 63 = .ok (.i2l, 1) := by decide +kernel
theorem dX4_takeGlue_64 : decode cX4_takeGlue 64 = .ok (.ladd, 1) := by decide +kernel
theorem dX4_takeGlue_65 : decode cX4_takeGlue 65 = .ok (.lastore, 1) := by decide +kernel
theorem dX4_takeGlue_66 : decode cX4_takeGlue 66 = .ok (.return_, 1) := by decide +kernel
theorem dX4_total_0 : decode cX4_total 0 = .ok (.aload_n 0, 1) := by decide +kernel
theorem dX4_total_1 : decode cX4_total 1 = .ok (.getfield 25, 3) := by decide +kernel
theorem dX4_total_4 : decode cX4_total 4 = .ok (.aload_n 0, 1) := by decide +kernel
theorem dX4_total_5 : decode cX4_total 5 = .ok (.getfield 28, 3) := by decide +kernel
theorem dX4_total_8 : decode cX4_total 8 = .ok (.lsub, 1) := by decide +kernel
theorem dX4_total_9 : decode cX4_total 9 = .ok (.lreturn, 1) := by decide +kernel
theorem dX4_stretchOf_0 : decode cX4_stretchOf 0 = .ok (.iload_n 1, 1) := by decide +kernel
theorem dX4_stretchOf_1 : decode cX4_stretchOf 1 = .ok (.ifCond .lt 17, 3) := by decide +kernel
theorem dX4_stretchOf_4 : decode cX4_stretchOf 4 = .ok (.iload_n 1, 1) := by decide +kernel
theorem dX4_stretchOf_5 : decode cX4_stretchOf 5 = .ok (.iconst 4, 1) := by decide +kernel
theorem dX4_stretchOf_6 : decode cX4_stretchOf 6 = .ok (.if_icmp .ge 12, 3) := by decide +kernel
theorem dX4_stretchOf_9 : decode cX4_stretchOf 9 = .ok (.aload_n 0, 1) := by decide +kernel
theorem dX4_stretchOf_10 : decode cX4_stretchOf 10 = .ok (.getfield 9, 3) := by decide +kernel
theorem dX4_stretchOf_13 : decode cX4_stretchOf 13 = .ok (.iload_n 1, 1) := by decide +kernel
theorem dX4_stretchOf_14 : decode cX4_stretchOf 14 = .ok (.laload, 1) := by decide +kernel
theorem dX4_stretchOf_15 : decode cX4_stretchOf 15 = .ok (.goto 4, 3) := by decide +kernel
theorem dX4_stretchOf_18 : decode cX4_stretchOf 18 = .ok (.lconst 0, 1) := by decide +kernel
theorem dX4_stretchOf_19 : decode cX4_stretchOf 19 = .ok (.lreturn, 1) := by decide +kernel
theorem dX4_highestOrder_0 : decode cX4_highestOrder 0 = .ok (.iconst 3, 1) := by decide +kernel
theorem dX4_highestOrder_1 : decode cX4_highestOrder 1 = .ok (.istore_n 1, 1) := by decide +kernel
theorem dX4_highestOrder_2 : decode cX4_highestOrder 2 = .ok (.iload_n 1, 1) := by decide +kernel
theorem dX4_highestOrder_3 : decode cX4_highestOrder 3 = .ok (.ifCond .lt 22, 3) := by decide +kernel
theorem dX4_highestOrder_6 : decode cX4_highestOrder 6 = .ok (.aload_n 0, 1) := by decide +kernel
theorem dX4_highestOrder_7 : decode cX4_highestOrder 7 = .ok (.getfield 9, 3) := by decide +kernel
theorem dX4_highestOrder_10 : decode cX4_highestOrder 10 = .ok (.iload_n 1, 1) := by decide +kernel
theorem dX4_highestOrder_11 : decode cX4_highestOrder 11 = .ok (.laload, 1) := by decide +kernel
theorem dX4_highestOrder_12 : decode cX4_highestOrder 12 = .ok (.lconst 0, 1) := by decide +kernel
theorem dX4_highestOrder_13 : decode cX4_highestOrder 13 = .ok (.lcmp, 1) := by decide +kernel
theorem dX4_highestOrder_14 : decode cX4_highestOrder 14 = .ok (.ifCond .le 5, 3) := by decide +kernel
theorem dX4_highestOrder_17 : decode cX4_highestOrder 17 = .ok (.iload_n 1, 1) := by decide +kernel
theorem dX4_highestOrder_18 : decode cX4_highestOrder 18 = .ok (.ireturn, 1) := by decide +kernel
theorem dX4_highestOrder_19 : decode cX4_highestOrder 19 = .ok (.iinc 1 (-1), 3) := by decide +kernel
theorem dX4_highestOrder_22 : decode cX4_highestOrder 22 = .ok (.goto (-20), 3) := by decide +kernel
theorem dX4_highestOrder_25 : decode cX4_highestOrder 25 = .ok (.iconst (-1), 1) := by decide +kernel
theorem dX4_highestOrder_26 : decode cX4_highestOrder 26 = .ok (.ireturn, 1) := by decide +kernel
set_option maxRecDepth 20000 in
theorem ggX4_areSizes_X5_isSize : GoodIn wsX4_areSizes wsX5_isSize := goodIn_r _ [6, 7, 8] (by decide +kernel) (by decide +kernel)
set_option maxRecDepth 20000 in
theorem gX4_areSizes_X5_isSize_n60 : GoodIn wsX4_areSizes (wsX5_isSize) := ggX4_areSizes_X5_isSize
set_option maxRecDepth 20000 in
theorem ggX4_areSizes_X4_total : GoodIn wsX4_areSizes wsX4_total := goodIn_r _ [13, 14, 15, 16, 17, 18, 19, 20, 21] (by decide +kernel) (by decide +kernel)
set_option maxRecDepth 20000 in
theorem gX4_areSizes_X4_total : GoodIn wsX4_areSizes (wsV RX4 64 RX4 yX4_total wsX4_total) := goodIn_app (goodIn_of _ (by decide +kernel)) ggX4_areSizes_X4_total
theorem dX4_areSizes_0 : decode cX4_areSizes 0 = .ok (.iconst 0, 1) := by decide +kernel
theorem dX4_areSizes_1 : decode cX4_areSizes 1 = .ok (.istore_n 1, 1) := by decide +kernel
theorem dX4_areSizes_2 : decode cX4_areSizes 2 = .ok (.iload_n 1, 1) := by decide +kernel
theorem dX4_areSizes_3 : decode cX4_areSizes 3 = .ok (.iconst 4, 1) := by decide +kernel
theorem dX4_areSizes_4 : decode cX4_areSizes 4 = .ok (.if_icmp .ge 23, 3) := by decide +kernel
theorem dX4_areSizes_7 : decode cX4_areSizes 7 = .ok (.aload_n 0, 1) := by decide +kernel
theorem dX4_areSizes_8 : decode cX4_areSizes 8 = .ok (.getfield 9, 3) := by decide +kernel
theorem dX4_areSizes_11 : decode cX4_areSizes 11 = .ok (.iload_n 1, 1) := by decide +kernel
theorem dX4_areSizes_12 : decode cX4_areSizes 12 = .ok (.laload, 1) := by decide +kernel
theorem dX4_areSizes_13 : decode cX4_areSizes 13 = .ok (.invokestatic 60, 3) := by decide +kernel
theorem dX4_areSizes_16 : decode cX4_areSizes 16 = .ok (.ifCond .ne 5, 3) := by decide +kernel
theorem dX4_areSizes_19 : decode cX4_areSizes 19 = .ok (.iconst 0, 1) := by decide +kernel
theorem dX4_areSizes_20 : decode cX4_areSizes 20 = .ok (.ireturn, 1) := by decide +kernel
theorem dX4_areSizes_21 : decode cX4_areSizes 21 = .ok (.iinc 1 1, 3) := by decide +kernel
theorem dX4_areSizes_24 : decode cX4_areSizes 24 = .ok (.goto (-22), 3) := by decide +kernel
theorem dX4_areSizes_27 : decode cX4_areSizes 27 = .ok (.aload_n 0, 1) := by decide +kernel
theorem dX4_areSizes_28 : decode cX4_areSizes 28 = .ok (.invokevirtual 64, 3) := by decide +kernel
theorem dX4_areSizes_31 : decode cX4_areSizes 31 = .ok (.invokestatic 60, 3) := by decide +kernel
theorem dX4_areSizes_34 : decode cX4_areSizes 34 = .ok (.ifCond .eq 27, 3) := by decide +kernel
theorem dX4_areSizes_37 : decode cX4_areSizes 37 = .ok (.aload_n 0, 1) := by decide +kernel
theorem dX4_areSizes_38 : decode cX4_areSizes 38 = .ok (.getfield 21, 3) := by decide +kernel
theorem dX4_areSizes_41 : decode cX4_areSizes 41 = .ok (.invokestatic 60, 3) := by decide +kernel
theorem dX4_areSizes_44 : decode cX4_areSizes 44 = .ok (.ifCond .eq 17, 3) := by decide +kernel
theorem dX4_areSizes_47 : decode cX4_areSizes 47 = .ok (.aload_n 0, 1) := by decide +kernel
theorem dX4_areSizes_48 : decode cX4_areSizes 48 = .ok (.getfield 31, 3) := by decide +kernel
theorem dX4_areSizes_51 : decode cX4_areSizes 51 = .ok (.invokestatic 60, 3) := by decide +kernel
theorem dX4_areSizes_54 : decode cX4_areSizes 54 = .ok (.ifCond .eq 7, 3) := by decide +kernel
theorem dX4_areSizes_57 : decode cX4_areSizes 57 = .ok (.iconst 1, 1) := by decide +kernel
theorem dX4_areSizes_58 : decode cX4_areSizes 58 = .ok (.goto 4, 3) := by decide +kernel
theorem dX4_areSizes_61 : decode cX4_areSizes 61 = .ok (.iconst 0, 1) := by decide +kernel
theorem dX4_areSizes_62 : decode cX4_areSizes 62 = .ok (.ireturn, 1) := by decide +kernel
set_option maxRecDepth 20000 in
theorem ggX5_init_X0_init : GoodIn wsX5_init wsX0_init := goodIn_r _ [23, 24, 2, 3, 25, 26, 74, 75] (by decide +kernel) (by decide +kernel)
set_option maxRecDepth 20000 in
theorem gX5_init_X0_init : GoodIn wsX5_init (wsX0_init) := ggX5_init_X0_init
set_option maxRecDepth 20000 in
theorem ggX5_init_X2_init : GoodIn wsX5_init wsX2_init := goodIn_r _ [28, 29, 2, 3, 30, 17, 18, 31, 32, 33, 34, 35, 36, 37, 97, 98, 99, 100, 101, 102, 87, 88, 89, 90, 91, 92] (by decide +kernel) (by decide +kernel)
set_option maxRecDepth 20000 in
theorem gX5_init_X2_init_n20 : GoodIn wsX5_init (wsX2_init) := ggX5_init_X2_init
set_option maxRecDepth 20000 in
theorem ggX5_init_X3_init : GoodIn wsX5_init wsX3_init := goodIn_r _ [39, 40, 2, 3, 41, 42, 93, 94, 95, 96] (by decide +kernel) (by decide +kernel)
set_option maxRecDepth 20000 in
theorem gX5_init_X3_init_n27 : GoodIn wsX5_init (wsX3_init) := ggX5_init_X3_init
set_option maxRecDepth 20000 in
theorem ggX5_init_X4_init : GoodIn wsX5_init wsX4_init := goodIn_r _ [34, 35, 2, 3, 36, 37, 97, 98, 99, 100, 101, 102] (by decide +kernel) (by decide +kernel)
set_option maxRecDepth 20000 in
theorem gX5_init_X4_init_n34 : GoodIn wsX5_init (wsX4_init) := ggX5_init_X4_init
set_option maxRecDepth 20000 in
theorem ggX5_init_X0_append : GoodIn wsX5_init wsX0_append := goodIn_r _ [46, 47, 26, 48, 49, 50, 6, 51, 52, 53, 54, 55, 56, 57, 58, 59, 60, 61, 62, 63, 64, 65, 66, 67, 68, 25, 69, 70, 71, 72, 73, 74, 75] (by decide +kernel) (by decide +kernel)
set_option maxRecDepth 20000 in
theorem gX5_init_X0_append : GoodIn wsX5_init (wsV RX5 39 RX0 yX0_append wsX0_append) := goodIn_app (goodIn_of _ (by decide +kernel)) ggX5_init_X0_append
theorem dX5_init_0 : decode cX5_init 0 = .ok (.aload_n 0, 1) := by decide +kernel
theorem dX5_init_1 : decode cX5_init 1 = .ok (.invokespecial 3, 3) := by decide +kernel
theorem dX5_init_4 : decode cX5_init 4 = .ok (.aload_n 0, 1) := by decide +kernel
theorem dX5_init_5 : decode cX5_init 5 = .ok (.new 9, 3) := by decide +kernel
theorem dX5_init_8 : decode cX5_init 8 = .ok (.dup, 1) := by decide +kernel
theorem dX5_init_9 : decode cX5_init 9 = .ok (.bipush 64, 2) := by decide +kernel
theorem dX5_init_11 : decode cX5_init 11 = .ok (.invokespecial 11, 3) := by decide +kernel
theorem dX5_init_14 : decode cX5_init 14 = .ok (.putfield 14, 3) := by decide +kernel
theorem dX5_init_17 : decode cX5_init 17 = .ok (.aload_n 0, 1) := by decide +kernel
theorem dX5_init_18 : decode cX5_init 18 = .ok (.new 18, 3) := by decide +kernel
theorem dX5_init_21 : decode cX5_init 21 = .ok (.dup, 1) := by decide +kernel
theorem dX5_init_22 : decode cX5_init 22 = .ok (.invokespecial 20, 3) := by decide +kernel
theorem dX5_init_25 : decode cX5_init 25 = .ok (.putfield 21, 3) := by decide +kernel
theorem dX5_init_28 : decode cX5_init 28 = .ok (.aload_n 0, 1) := by decide +kernel
theorem dX5_init_29 : decode cX5_init 29 = .ok (.new 25, 3) := by decide +kernel
theorem dX5_init_32 : decode cX5_init 32 = .ok (.dup, 1) := by decide +kernel
theorem dX5_init_33 : decode cX5_init 33 = .ok (.invokespecial 27, 3) := by decide +kernel
theorem dX5_init_36 : decode cX5_init 36 = .ok (.putfield 28, 3) := by decide +kernel
theorem dX5_init_39 : decode cX5_init 39 = .ok (.aload_n 0, 1) := by decide +kernel
theorem dX5_init_40 : decode cX5_init 40 = .ok (.new 32, 3) := by decide +kernel
theorem dX5_init_43 : decode cX5_init 43 = .ok (.dup, 1) := by decide +kernel
theorem dX5_init_44 : decode cX5_init 44 = .ok (.invokespecial 34, 3) := by decide +kernel
end
section
theorem dX5_init_47 : decode cX5_init 47 = .ok (.putfield 35, 3) := by decide +kernel
theorem dX5_init_50 : decode cX5_init 50 = .ok (.aload_n 0, 1) := by decide +kernel
theorem dX5_init_51 : decode cX5_init 51 = .ok (.getfield 14, 3) := by decide +kernel
theorem dX5_init_54 : decode cX5_init 54 = .ok (.invokevirtual 39, 3) := by decide +kernel
theorem dX5_init_57 : decode cX5_init 57 = .ok (.pop, 1) := by decide +kernel
theorem dX5_init_58 : decode cX5_init 58 = .ok (.aload_n 0, 1) := by decide +kernel
theorem dX5_init_59 : decode cX5_init 59 = .ok (.iconst 1, 1) := by decide +kernel
theorem dX5_init_60 : decode cX5_init 60 = .ok (.putfield 43, 3) := by decide +kernel
theorem dX5_init_63 : decode cX5_init 63 = .ok (.return_, 1) := by decide +kernel
set_option maxRecDepth 20000 in
theorem ggX5_page_X5_isSize : GoodIn wsX5_page wsX5_isSize := goodIn_r _ [6, 7, 8] (by decide +kernel) (by decide +kernel)
set_option maxRecDepth 20000 in
theorem gX5_page_X5_isSize : GoodIn wsX5_page (va_wsS RX5 47 yX5_isSize wsX5_isSize) := goodIn_app (goodIn_of _ (by decide +kernel)) ggX5_page_X5_isSize
theorem dX5_page_0 : decode cX5_page 0 = .ok (.iload_n 1, 1) := by decide +kernel
theorem dX5_page_1 : decode cX5_page 1 = .ok (.i2l, 1) := by decide +kernel
theorem dX5_page_2 : decode cX5_page 2 = .ok (.invokestatic 47, 3) := by decide +kernel
theorem dX5_page_5 : decode cX5_page 5 = .ok (.ifCond .eq 15, 3) := by decide +kernel
theorem dX5_page_8 : decode cX5_page 8 = .ok (.iload_n 2, 1) := by decide +kernel
theorem dX5_page_9 : decode cX5_page 9 = .ok (.i2l, 1) := by decide +kernel
theorem dX5_page_10 : decode cX5_page 10 = .ok (.invokestatic 47, 3) := by decide +kernel
theorem dX5_page_13 : decode cX5_page 13 = .ok (.ifCond .eq 7, 3) := by decide +kernel
theorem dX5_page_16 : decode cX5_page 16 = .ok (.iload_n 2, 1) := by decide +kernel
theorem dX5_page_17 : decode cX5_page 17 = .ok (.ifCond .ge 5, 3) := by decide +kernel
theorem dX5_page_20 : decode cX5_page 20 = .ok (.iconst 0, 1) := by decide +kernel
theorem dX5_page_21 : decode cX5_page 21 = .ok (.ireturn, 1) := by decide +kernel
theorem dX5_page_22 : decode cX5_page 22 = .ok (.aload_n 0, 1) := by decide +kernel
theorem dX5_page_23 : decode cX5_page 23 = .ok (.iload_n 1, 1) := by decide +kernel
theorem dX5_page_24 : decode cX5_page 24 = .ok (.putfield 51, 3) := by decide +kernel
theorem dX5_page_27 : decode cX5_page 27 = .ok (.aload_n 0, 1) := by decide +kernel
theorem dX5_page_28 : decode cX5_page 28 = .ok (.iload_n 2, 1) := by decide +kernel
theorem dX5_page_29 : decode cX5_page 29 = .ok (.putfield 54, 3) := by decide +kernel
theorem dX5_page_32 : decode cX5_page 32 = .ok (.iconst 1, 1) := by decide +kernel
theorem dX5_page_33 : decode cX5_page 33 = .ok (.ireturn, 1) := by decide +kernel
set_option maxRecDepth 20000 in
theorem ggX5_top_X5_isGlue : GoodIn wsX5_top wsX5_isGlue := goodIn_r _ [8, 9, 10, 7, 11, 12, 13] (by decide +kernel) (by decide +kernel)
set_option maxRecDepth 20000 in
theorem gX5_top_X5_isGlue : GoodIn wsX5_top (va_wsS RX5 57 yX5_isGlue wsX5_isGlue) := goodIn_app (goodIn_of _ (by decide +kernel)) ggX5_top_X5_isGlue
theorem dX5_top_0 : decode cX5_top 0 = .ok (.iload_n 1, 1) := by decide +kernel
theorem dX5_top_1 : decode cX5_top 1 = .ok (.iload_n 2, 1) := by decide +kernel
theorem dX5_top_2 : decode cX5_top 2 = .ok (.iload_n 3, 1) := by decide +kernel
theorem dX5_top_3 : decode cX5_top 3 = .ok (.iload 4, 2) := by decide +kernel
theorem dX5_top_5 : decode cX5_top 5 = .ok (.invokestatic 57, 3) := by decide +kernel
theorem dX5_top_8 : decode cX5_top 8 = .ok (.ifCond .ne 5, 3) := by decide +kernel
theorem dX5_top_11 : decode cX5_top 11 = .ok (.iconst 0, 1) := by decide +kernel
theorem dX5_top_12 : decode cX5_top 12 = .ok (.ireturn, 1) := by decide +kernel
theorem dX5_top_13 : decode cX5_top 13 = .ok (.aload_n 0, 1) := by decide +kernel
theorem dX5_top_14 : decode cX5_top 14 = .ok (.iload_n 1, 1) := by decide +kernel
theorem dX5_top_15 : decode cX5_top 15 = .ok (.putfield 61, 3) := by decide +kernel
theorem dX5_top_18 : decode cX5_top 18 = .ok (.aload_n 0, 1) := by decide +kernel
theorem dX5_top_19 : decode cX5_top 19 = .ok (.iload_n 2, 1) := by decide +kernel
theorem dX5_top_20 : decode cX5_top 20 = .ok (.putfield 64, 3) := by decide +kernel
theorem dX5_top_23 : decode cX5_top 23 = .ok (.aload_n 0, 1) := by decide +kernel
theorem dX5_top_24 : decode cX5_top 24 = .ok (.iload_n 3, 1) := by decide +kernel
theorem dX5_top_25 : decode cX5_top 25 = .ok (.putfield 67, 3) := by decide +kernel
theorem dX5_top_28 : decode cX5_top 28 = .ok (.aload_n 0, 1) := by decide +kernel
theorem dX5_top_29 : decode cX5_top 29 = .ok (.iload 4, 2) := by decide +kernel
theorem dX5_top_31 : decode cX5_top 31 = .ok (.putfield 70, 3) := by decide +kernel
theorem dX5_top_34 : decode cX5_top 34 = .ok (.iconst 1, 1) := by decide +kernel
theorem dX5_top_35 : decode cX5_top 35 = .ok (.ireturn, 1) := by decide +kernel
set_option maxRecDepth 20000 in
theorem ggX5_box_X5_addSolid : GoodIn wsX5_box wsX5_addSolid := goodIn_r _ [5, 6, 7, 8, 4, 9, 10, 11, 12, 13, 14, 15, 16, 17, 18, 19, 20, 21, 22, 23, 24, 25, 26, 27, 28, 29, 30, 31, 32, 33, 34, 35, 36, 37, 38, 39, 40, 41, 42, 43, 44, 45, 46, 47, 48, 49, 50, 51, 52, 53, 54, 55, 56, 57, 58, 59, 60, 61, 62, 63, 64, 65, 66, 67, 68, 69, 70, 71, 72, 73, 74, 75, 76, 77, 78, 79, 80, 81, 82, 83, 84, 85, 86, 87, 88, 89, 90, 91, 92, 93, 94, 95, 96, 97, 98, 99, 100, 101, 102, 103, 104, 105, 106, 107, 108, 109, 110, 111, 112, 113, 114, 115, 116, 117, 118, 119, 120] (by decide +kernel) (by decide +kernel)
set_option maxRecDepth 20000 in
theorem gX5_box_X5_addSolid : GoodIn wsX5_box (wsV RX5 73 RX5 yX5_addSolid wsX5_addSolid) := goodIn_app (goodIn_of _ (by decide +kernel)) ggX5_box_X5_addSolid
theorem dX5_box_0 : decode cX5_box 0 = .ok (.aload_n 0, 1) := by decide +kernel
theorem dX5_box_1 : decode cX5_box 1 = .ok (.iconst 2, 1) := by decide +kernel
theorem dX5_box_2 : decode cX5_box 2 = .ok (.iload_n 1, 1) := by decide +kernel
theorem dX5_box_3 : decode cX5_box 3 = .ok (.iload_n 2, 1) := by decide +kernel
theorem dX5_box_4 : decode cX5_box 4 = .ok (.iload_n 3, 1) := by decide +kernel
theorem dX5_box_5 : decode cX5_box 5 = .ok (.iload 4, 2) := by decide +kernel
theorem dX5_box_7 : decode cX5_box 7 = .ok (.invokevirtual 73, 3) := by decide +kernel
theorem dX5_box_10 : decode cX5_box 10 = .ok (.ireturn, 1) := by decide +kernel
set_option maxRecDepth 20000 in
theorem ggX5_rule_X5_addSolid : GoodIn wsX5_rule wsX5_addSolid := goodIn_r _ [5, 6, 7, 8, 4, 9, 10, 11, 12, 13, 14, 15, 16, 17, 18, 19, 20, 21, 22, 23, 24, 25, 26, 27, 28, 29, 30, 31, 32, 33, 34, 35, 36, 37, 38, 39, 40, 41, 42, 43, 44, 45, 46, 47, 48, 49, 50, 51, 52, 53, 54, 55, 56, 57, 58, 59, 60, 61, 62, 63, 64, 65, 66, 67, 68, 69, 70, 71, 72, 73, 74, 75, 76, 77, 78, 79, 80, 81, 82, 83, 84, 85, 86, 87, 88, 89, 90, 91, 92, 93, 94, 95, 96, 97, 98, 99, 100, 101, 102, 103, 104, 105, 106, 107, 108, 109, 110, 111, 112, 113, 114, 115, 116, 117, 118, 119, 120] (by decide +kernel) (by decide +kernel)
set_option maxRecDepth 20000 in
theorem gX5_rule_X5_addSolid : GoodIn wsX5_rule (wsV RX5 73 RX5 yX5_addSolid wsX5_addSolid) := goodIn_app (goodIn_of _ (by decide +kernel)) ggX5_rule_X5_addSolid
theorem dX5_rule_0 : decode cX5_rule 0 = .ok (.aload_n 0, 1) := by decide +kernel
theorem dX5_rule_1 : decode cX5_rule 1 = .ok (.iconst 4, 1) := by decide +kernel
theorem dX5_rule_2 : decode cX5_rule 2 = .ok (.iload_n 1, 1) := by decide +kernel
theorem dX5_rule_3 : decode cX5_rule 3 = .ok (.iload_n 2, 1) := by decide +kernel
theorem dX5_rule_4 : decode cX5_rule 4 = .ok (.iload_n 3, 1) := by decide +kernel
theorem dX5_rule_5 : decode cX5_rule 5 = .ok (.iconst 0, 1) := by decide +kernel
theorem dX5_rule_6 : decode cX5_rule 6 = .ok (.invokevirtual 73, 3) := by decide +kernel
theorem dX5_rule_9 : decode cX5_rule 9 = .ok (.ireturn, 1) := by decide +kernel
set_option maxRecDepth 20000 in
theorem ggX5_glue_X5_isGlue : GoodIn wsX5_glue wsX5_isGlue := goodIn_r _ [5, 6, 7, 4, 8, 9, 10] (by decide +kernel) (by decide +kernel)
set_option maxRecDepth 20000 in
theorem gX5_glue_X5_isGlue : GoodIn wsX5_glue (va_wsS RX5 57 yX5_isGlue wsX5_isGlue) := goodIn_app (goodIn_of _ (by decide +kernel)) ggX5_glue_X5_isGlue
set_option maxRecDepth 20000 in
theorem ggX5_glue_X5_isFull : GoodIn wsX5_glue wsX5_isFull := goodIn_r _ [14, 15, 16, 17, 18, 4, 19, 20, 21, 22, 23, 24, 25, 1, 26, 27, 28, 29, 30, 31, 32, 33, 34, 35, 36, 37, 38, 39, 40, 41, 42, 43, 44, 45, 46, 47, 48, 93, 94, 95, 96, 97, 98, 99, 100, 101, 102, 103, 104, 105, 106, 107, 108, 109, 110, 111, 112, 113, 114, 115, 116, 117, 118, 119] (by decide +kernel) (by decide +kernel)
set_option maxRecDepth 20000 in
theorem gX5_glue_X5_isFull : GoodIn wsX5_glue (wsV RX5 77 RX5 yX5_isFull wsX5_isFull) := goodIn_app (goodIn_of _ (by decide +kernel)) ggX5_glue_X5_isFull
set_option maxRecDepth 20000 in
theorem ggX5_glue_X0_append : GoodIn wsX5_glue wsX0_append := goodIn_r _ [52, 31, 53, 54, 55, 56, 29, 57, 58, 59, 60, 61, 62, 63, 64, 65, 66, 67, 68, 69, 70, 71, 72, 73, 74, 75, 76, 77, 78, 79, 80, 110, 111] (by decide +kernel) (by decide +kernel)
set_option maxRecDepth 20000 in
theorem gX5_glue_X0_append : GoodIn wsX5_glue (wsV RX5 39 RX0 yX0_append wsX0_append) := goodIn_app (goodIn_of _ (by decide +kernel)) ggX5_glue_X0_append
set_option maxRecDepth 20000 in
theorem ggX5_glue_X0_makeGlue : GoodIn wsX5_glue wsX0_makeGlue := goodIn_r _ [84, 85, 86, 87, 29, 88, 89, 90, 91, 92, 31, 53, 110, 111] (by decide +kernel) (by decide +kernel)
set_option maxRecDepth 20000 in
theorem gX5_glue_X0_makeGlue : GoodIn wsX5_glue (wsV RX5 81 RX0 yX0_makeGlue wsX0_makeGlue) := goodIn_app (goodIn_of _ (by decide +kernel)) ggX5_glue_X0_makeGlue
theorem dX5_glue_0 : decode cX5_glue 0 = .ok (.iload_n 1, 1) := by decide +kernel
theorem dX5_glue_1 : decode cX5_glue 1 = .ok (.iload_n 2, 1) := by decide +kernel
theorem dX5_glue_2 : decode cX5_glue 2 = .ok (.iload_n 3, 1) := by decide +kernel
theorem dX5_glue_3 : decode cX5_glue 3 = .ok (.iload 4, 2) := by decide +kernel
theorem dX5_glue_5 : decode cX5_glue 5 = .ok (.invokestatic 57, 3) := by decide +kernel
theorem dX5_glue_8 : decode cX5_glue 8 = .ok (.ifCond .eq 10, 3) := by decide +kernel
theorem dX5_glue_11 : decode cX5_glue 11 = .ok (.aload_n 0, 1) := by decide +kernel
theorem dX5_glue_12 : decode cX5_glue 12 = .ok (.invokevirtual 77, 3) := by decide +kernel
theorem dX5_glue_15 : decode cX5_glue 15 = .ok (.ifCond .eq 5, 3) := by decide +kernel
theorem dX5_glue_18 : decode cX5_glue 18 = .ok (.iconst 0, 1) := by decide +kernel
theorem dX5_glue_19 : decode cX5_glue 19 = .ok (.ireturn, 1) := by decide +kernel
theorem dX5_glue_20 : decode cX5_glue 20 = .ok (.aload_n 0, 1) := by decide +kernel
theorem dX5_glue_21 : decode cX5_glue 21 = .ok (.getfield 14, 3) := by decide +kernel
theorem dX5_glue_24 : decode cX5_glue 24 = .ok (.aload_n 0, 1) := by decide +kernel
theorem dX5_glue_25 : decode cX5_glue 25 = .ok (.getfield 14, 3) := by decide +kernel
theorem dX5_glue_28 : decode cX5_glue 28 = .ok (.invokevirtual 39, 3) := by decide +kernel
theorem dX5_glue_31 : decode cX5_glue 31 = .ok (.iload_n 1, 1) := by decide +kernel
theorem dX5_glue_32 : decode cX5_glue 32 = .ok (.iload_n 2, 1) := by decide +kernel
theorem dX5_glue_33 : decode cX5_glue 33 = .ok (.iload_n 3, 1) := by decide +kernel
theorem dX5_glue_34 : decode cX5_glue 34 = .ok (.iload 4, 2) := by decide +kernel
theorem dX5_glue_36 : decode cX5_glue 36 = .ok (.invokevirtual 81, 3) := by decide +kernel
theorem dX5_glue_39 : decode cX5_glue 39 = .ok (.iconst 1, 1) := by decide +kernel
theorem dX5_glue_40 : decode cX5_glue 40 = .ok (.ireturn, 1) := by decide +kernel
set_option maxRecDepth 20000 in
theorem ggX5_kern_X5_isSize : GoodIn wsX5_kern wsX5_isSize := goodIn_r _ [5, 6, 7] (by decide +kernel) (by decide +kernel)
set_option maxRecDepth 20000 in
theorem gX5_kern_X5_isSize : GoodIn wsX5_kern (va_wsS RX5 47 yX5_isSize wsX5_isSize) := goodIn_app (goodIn_of _ (by decide +kernel)) ggX5_kern_X5_isSize
set_option maxRecDepth 20000 in
theorem ggX5_kern_X5_isFull : GoodIn wsX5_kern wsX5_isFull := goodIn_r _ [11, 12, 13, 14, 15, 4, 16, 17, 18, 19, 20, 21, 22, 1, 23, 24, 25, 26, 27, 28, 29, 30, 31, 32, 33, 34, 35, 36, 37, 38, 39, 40, 41, 42, 43, 44, 45, 86, 87, 88, 89, 90, 91, 92, 93, 94, 95, 96, 97, 98, 99, 100, 101, 102, 103, 104, 105, 106, 107, 108, 109, 110, 111, 112] (by decide +kernel) (by decide +kernel)
set_option maxRecDepth 20000 in
theorem gX5_kern_X5_isFull : GoodIn wsX5_kern (wsV RX5 77 RX5 yX5_isFull wsX5_isFull) := goodIn_app (goodIn_of _ (by decide +kernel)) ggX5_kern_X5_isFull
set_option maxRecDepth 20000 in
theorem ggX5_kern_X0_append : GoodIn wsX5_kern wsX0_append := goodIn_r _ [49, 28, 50, 51, 52, 53, 26, 54, 55, 56, 57, 58, 59, 60, 61, 62, 63, 64, 65, 66, 67, 68, 69, 70, 71, 72, 73, 74, 75, 76, 77, 103, 104] (by decide +kernel) (by decide +kernel)
set_option maxRecDepth 20000 in
theorem gX5_kern_X0_append : GoodIn wsX5_kern (wsV RX5 39 RX0 yX0_append wsX0_append) := goodIn_app (goodIn_of _ (by decide +kernel)) ggX5_kern_X0_append
set_option maxRecDepth 20000 in
theorem ggX5_kern_X0_makePlain : GoodIn wsX5_kern wsX0_makePlain := goodIn_r _ [81, 82, 83, 84, 26, 85, 28, 50, 103, 104] (by decide +kernel) (by decide +kernel)
set_option maxRecDepth 20000 in
theorem gX5_kern_X0_makePlain : GoodIn wsX5_kern (wsV RX5 85 RX0 yX0_makePlain wsX0_makePlain) := goodIn_app (goodIn_of _ (by decide +kernel)) ggX5_kern_X0_makePlain
theorem dX5_kern_0 : decode cX5_kern 0 = .ok (.iload_n 1, 1) := by decide +kernel
theorem dX5_kern_1 : decode cX5_kern 1 = .ok (.i2l, 1) := by decide +kernel
theorem dX5_kern_2 : decode cX5_kern 2 = .ok (.invokestatic 47, 3) := by decide +kernel
theorem dX5_kern_5 : decode cX5_kern 5 = .ok (.ifCond .eq 10, 3) := by decide +kernel
theorem dX5_kern_8 : decode cX5_kern 8 = .ok (.aload_n 0, 1) := by decide +kernel
theorem dX5_kern_9 : decode cX5_kern 9 = .ok (.invokevirtual 77, 3) := by decide +kernel
theorem dX5_kern_12 : decode cX5_kern 12 = .ok (.ifCond .eq 5, 3) := by decide +kernel
theorem dX5_kern_15 : decode cX5_kern 15 = .ok (.iconst 0, 1) := by decide +kernel
theorem dX5_kern_16 : decode cX5_kern 16 = .ok (.ireturn, 1) := by decide +kernel
theorem dX5_kern_17 : decode cX5_kern 17 = .ok (.aload_n 0, 1) := by decide +kernel
theorem dX5_kern_18 : decode cX5_kern 18 = .ok (.getfield 14, 3) := by decide +kernel
theorem dX5_kern_21 : decode cX5_kern 21 = .ok (.aload_n 0, 1) := by decide +kernel
theorem dX5_kern_22 : decode cX5_kern 22 = .ok (.getfield 14, 3) := by decide +kernel
theorem dX5_kern_25 : decode cX5_kern 25 = .ok (.invokevirtual 39, 3) := by decide +kernel
theorem dX5_kern_28 : decode cX5_kern 28 = .ok (.bipush 6, 2) := by decide +kernel
theorem dX5_kern_30 : decode cX5_kern 30 = .ok (.iload_n 1, 1) := by decide +kernel
theorem dX5_kern_31 : decode cX5_kern 31 = .ok (.invokevirtual 85, 3) := by decide +kernel
theorem dX5_kern_34 : decode cX5_kern 34 = .ok (.iconst 1, 1) := by decide +kernel
theorem dX5_kern_35 : decode cX5_kern 35 = .ok (.ireturn, 1) := by decide +kernel
set_option maxRecDepth 20000 in
theorem ggX5_penalty_X5_isFull : GoodIn wsX5_penalty wsX5_isFull := goodIn_r _ [6, 7, 8, 9, 10, 5, 11, 12, 13, 14, 15, 16, 17, 1, 18, 19, 20, 21, 22, 23, 24, 25, 26, 27, 28, 29, 30, 31, 32, 33, 34, 35, 36, 37, 38, 39, 40, 81, 82, 83, 84, 85, 86, 87, 88, 89, 90, 91, 92, 93, 94, 95, 96, 97, 98, 99, 100, 101, 102, 103, 104, 105, 106, 107] (by decide +kernel) (by decide +kernel)
set_option maxRecDepth 20000 in
theorem gX5_penalty_X5_isFull : GoodIn wsX5_penalty (wsV RX5 77 RX5 yX5_isFull wsX5_isFull) := goodIn_app (goodIn_of _ (by decide +kernel)) ggX5_penalty_X5_isFull
set_option maxRecDepth 20000 in
theorem ggX5_penalty_X0_append : GoodIn wsX5_penalty wsX0_append := goodIn_r _ [44, 23, 45, 46, 47, 48, 21, 49, 50, 51, 52, 53, 54, 55, 56, 57, 58, 59, 60, 61, 62, 63, 64, 65, 66, 67, 68, 69, 70, 71, 72, 98, 99] (by decide +kernel) (by decide +kernel)
set_option maxRecDepth 20000 in
theorem gX5_penalty_X0_append : GoodIn wsX5_penalty (wsV RX5 39 RX0 yX0_append wsX0_append) := goodIn_app (goodIn_of _ (by decide +kernel)) ggX5_penalty_X0_append
set_option maxRecDepth 20000 in
theorem ggX5_penalty_X0_makePlain : GoodIn wsX5_penalty wsX0_makePlain := goodIn_r _ [76, 77, 78, 79, 21, 80, 23, 45, 98, 99] (by decide +kernel) (by decide +kernel)
set_option maxRecDepth 20000 in
theorem gX5_penalty_X0_makePlain : GoodIn wsX5_penalty (wsV RX5 85 RX0 yX0_makePlain wsX0_makePlain) := goodIn_app (goodIn_of _ (by decide +kernel)) ggX5_penalty_X0_makePlain
theorem dX5_penalty_0 : decode cX5_penalty 0 = .ok (.aload_n 0, 1) := by decide +kernel
theorem dX5_penalty_1 : decode cX5_penalty 1 = .ok (.invokevirtual 77, 3) := by decide +kernel
theorem dX5_penalty_4 : decode cX5_penalty 4 = .ok (.ifCond .eq 5, 3) := by decide +kernel
theorem dX5_penalty_7 : decode cX5_penalty 7 = .ok (.iconst 0, 1) := by decide +kernel
theorem dX5_penalty_8 : decode cX5_penalty 8 = .ok (.ireturn, 1) := by decide +kernel
theorem dX5_penalty_9 : decode cX5_penalty 9 = .ok (.aload_n 0, 1) := by decide +kernel
theorem dX5_penalty_10 : decode cX5_penalty 10 = .ok (.getfield 14, 3) := by decide +kernel
theorem dX5_penalty_13 : decode cX5_penalty 13 = .ok (.aload_n 0, 1) := by decide +kernel
theorem dX5_penalty_14 : decode cX5_penalty 14 = .ok (.getfield 14, 3) := by decide +kernel
theorem dX5_penalty_17 : decode cX5_penalty 17 = .ok (.invokevirtual 39, 3) := by decide +kernel
theorem dX5_penalty_20 : decode cX5_penalty 20 = .ok (.bipush 7, 2) := by decide +kernel
theorem dX5_penalty_22 : decode cX5_penalty 22 = .ok (.iload_n 1, 1) := by decide +kernel
theorem dX5_penalty_23 : decode cX5_penalty 23 = .ok (.invokevirtual 85, 3) := by decide +kernel
theorem dX5_penalty_26 : decode cX5_penalty 26 = .ok (.iconst 1, 1) := by decide +kernel
theorem dX5_penalty_27 : decode cX5_penalty 27 = .ok (.ireturn, 1) := by decide +kernel
set_option maxRecDepth 20000 in
theorem ggX5_build_X0_size : GoodIn wsX5_build wsX0_size := goodIn_r _ [8, 9, 300, 301] (by decide +kernel) (by decide +kernel)
set_option maxRecDepth 20000 in
theorem gX5_build_X0_size : GoodIn wsX5_build (wsV RX5 89 RX0 yX0_size wsX0_size) := goodIn_app (goodIn_of _ (by decide +kernel)) ggX5_build_X0_size
set_option maxRecDepth 20000 in
theorem ggX5_build_X5_fillPage : GoodIn wsX5_build wsX5_fillPage := goodIn_r _ [14, 3, 15, 16, 17, 18, 19, 13, 20, 4, 5, 6, 7, 8, 9, 21, 22, 23, 24, 25, 26, 27, 28, 29, 30, 31, 32, 33, 34, 35, 36, 37, 38, 39, 40, 41, 42, 43, 44, 45, 46, 47, 48, 49, 50, 51, 52, 53, 54, 55, 56, 57, 58, 59, 60, 61, 62, 63, 64, 65, 66, 67, 68, 69, 70, 71, 72, 73, 74, 75, 76, 77, 78, 79, 80, 81, 82, 83, 84, 85, 86, 87, 88, 89, 90, 91, 92, 93, 94, 95, 96, 97, 98, 99, 100, 101, 102, 103, 104, 105, 106, 107, 108, 109, 110, 111, 112, 113, 114, 115, 116, 117, 118, 119, 120, 121, 122, 123, 124, 125, 126, 127, 128, 129, 130, 131, 132, 133, 134, 135, 136, 137, 138, 139, 140, 141, 142, 143, 144, 145, 146, 147, 148, 289, 290, 291, 292, 293, 294, 295, 296, 297, 298, 299, 302, 303, 304, 305, 306, 307, 300, 301, 308, 309, 310, 311, 312, 313] (by decide +kernel) (by decide +kernel)
set_option maxRecDepth 20000 in
theorem gX5_build_X5_fillPage : GoodIn wsX5_build (wsV RX5 92 RX5 yX5_fillPage wsX5_fillPage) := goodIn_app (goodIn_of _ (by decide +kernel)) ggX5_build_X5_fillPage
set_option maxRecDepth 20000 in
theorem ggX5_build_X5_endPage : GoodIn wsX5_build wsX5_endPage := goodIn_r _ [152, 16, 15, 153, 3, 154, 155, 146, 147, 58, 148, 116, 156, 65, 66, 67, 68, 69, 70, 71, 72, 73, 74, 75, 76, 77, 78, 79, 80, 81, 82, 83, 22, 23, 7, 24, 9, 25, 84, 85, 86, 87, 88, 89, 36, 90, 91, 92, 93, 94, 95, 96, 97, 157, 158, 159, 160, 161, 13, 162, 163, 164, 165, 122, 123, 124, 166, 167, 168, 169, 170, 171, 172, 173, 174, 175, 176, 177, 178, 179, 180, 181, 182, 183, 184, 185, 186, 187, 188, 189, 190, 191, 192, 193, 194, 195, 196, 197, 198, 199, 200, 201, 202, 203, 204, 205, 206, 207, 208, 209, 210, 211, 212, 213, 214, 215, 216, 217, 35, 37, 218, 219, 220, 221, 222, 223, 224, 225, 226, 227, 228, 229, 230, 231, 232, 233, 234, 235, 236, 133, 134, 135, 237, 137, 138, 139, 238, 239, 240, 241, 242, 5, 6, 8, 243, 244, 245, 246, 247, 248, 249, 250, 251, 252, 253, 254, 255, 256, 257, 258, 259, 260, 52, 53, 54, 261, 262, 263, 264, 60, 61, 115, 289, 290, 291, 292, 293, 294, 295, 296, 297, 298, 299, 302, 303, 304, 305, 306, 307, 308, 309, 310, 311, 312, 313, 300, 301, 314, 315, 316, 317, 318, 319, 320, 321] (by decide +kernel) (by decide +kernel)
set_option maxRecDepth 20000 in
theorem gX5_build_X5_endPage : GoodIn wsX5_build (wsV RX5 95 RX5 yX5_endPage wsX5_endPage) := goodIn_app (goodIn_of _ (by decide +kernel)) ggX5_build_X5_endPage
set_option maxRecDepth 20000 in
theorem ggX5_build_X5_loseAll : GoodIn wsX5_build wsX5_loseAll := goodIn_r _ [268, 154, 16, 3, 15, 269, 270, 271, 169, 272, 172, 261, 262, 263, 58, 264, 60, 61, 116, 115, 273, 274, 275, 7, 276, 9, 277, 278, 279, 280, 25, 213, 214, 215, 216, 217, 35, 36, 37, 218, 174, 175, 219, 220, 77, 221, 222, 223, 224, 225, 226, 227, 197, 228, 229, 210, 211, 212, 289, 290, 291, 292, 293, 294, 295, 296, 297, 298, 299, 314, 315, 316, 317, 302, 303, 304, 305, 306, 307, 300, 301] (by decide +kernel) (by decide +kernel)
set_option maxRecDepth 20000 in
theorem gX5_build_X5_loseAll : GoodIn wsX5_build (wsV RX5 98 RX5 yX5_loseAll wsX5_loseAll) := goodIn_app (goodIn_of _ (by decide +kernel)) ggX5_build_X5_loseAll
set_option maxRecDepth 20000 in
theorem ggX5_build_X5_dropUsed : GoodIn wsX5_build wsX5_dropUsed := goodIn_r _ [284, 16, 15, 3, 285, 286, 287, 7, 288, 9, 25, 209, 210, 211, 212, 289, 290, 291, 292, 293, 294, 295, 296, 297, 298, 299, 302, 303, 304, 305, 306, 307, 300, 301] (by decide +kernel) (by decide +kernel)
set_option maxRecDepth 20000 in
theorem gX5_build_X5_dropUsed : GoodIn wsX5_build (wsV RX5 108 RX5 yX5_dropUsed wsX5_dropUsed) := goodIn_app (goodIn_of _ (by decide +kernel)) ggX5_build_X5_dropUsed
theorem dX5_build_0 : decode cX5_build 0 = .ok (.iconst 0, 1) := by decide +kernel
theorem dX5_build_1 : decode cX5_build 1 = .ok (.istore_n 1, 1) := by decide +kernel
theorem dX5_build_2 : decode cX5_build 2 = .ok (.aload_n 0, 1) := by decide +kernel
theorem dX5_build_3 : decode cX5_build 3 = .ok (.getfield 14, 3) := by decide +kernel
theorem dX5_build_6 : decode cX5_build 6 = .ok (.invokevirtual 89, 3) := by decide +kernel
theorem dX5_build_9 : decode cX5_build 9 = .ok (.istore_n 2, 1) := by decide +kernel
theorem dX5_build_10 : decode cX5_build 10 = .ok (.iconst 0, 1) := by decide +kernel
theorem dX5_build_11 : decode cX5_build 11 = .ok (.istore_n 3, 1) := by decide +kernel
theorem dX5_build_12 : decode cX5_build 12 = .ok (.iload_n 3, 1) := by decide +kernel
theorem dX5_build_13 : decode cX5_build 13 = .ok (.iload_n 2, 1) := by decide +kernel
theorem dX5_build_14 : decode cX5_build 14 = .ok (.if_icmp .ge 40, 3) := by decide +kernel
theorem dX5_build_17 : decode cX5_build 17 = .ok (.aload_n 0, 1) := by decide +kernel
theorem dX5_build_18 : decode cX5_build 18 = .ok (.invokevirtual 92, 3) := by decide +kernel
theorem dX5_build_21 : decode cX5_build 21 = .ok (.ifCond .eq 33, 3) := by decide +kernel
theorem dX5_build_24 : decode cX5_build 24 = .ok (.aload_n 0, 1) := by decide +kernel
theorem dX5_build_25 : decode cX5_build 25 = .ok (.invokevirtual 95, 3) := by decide +kernel
theorem dX5_build_28 : decode cX5_build 28 = .ok (.ifCond .ne 17, 3) := by decide +kernel
theorem dX5_build_31 : decode cX5_build 31 = .ok (.aload_n 0, 1) := by decide +kernel
theorem dX5_build_32 : decode cX5_build 32 = .ok (.invokevirtual 98, 3) := by decide +kernel
theorem dX5_build_35 : decode cX5_build 35 = .ok (.new 101, 3) := by decide +kernel
theorem dX5_build_38 : decode cX5_build 38 = .ok (.dup, 1) := by decide +kernel
theorem dX5_build_39 : decode cX5_build 39 = .ok (.ldc 103, 2) := by decide +kernel
theorem dX5_build_41 : decode cX5_build 41 = .ok (.invokespecial 105, 3) := by decide +kernel
theorem dX5_build_44 : decode cX5_build 44 = .ok (.athrow, 1) := by decide +kernel
theorem dX5_build_45 : decode cX5_build 45 = .ok (.iinc 1 1, 3) := by decide +kernel
theorem dX5_build_48 : decode cX5_build 48 = .ok (.iinc 3 1, 3) := by decide +kernel
theorem dX5_build_51 : decode cX5_build 51 = .ok (.goto (-39), 3) := by decide +kernel
theorem dX5_build_54 : decode cX5_build 54 = .ok (.aload_n 0, 1) := by decide +kernel
theorem dX5_build_55 : decode cX5_build 55 = .ok (.invokevirtual 108, 3) := by decide +kernel
theorem dX5_build_58 : decode cX5_build 58 = .ok (.iload_n 1, 1) := by decide +kernel
theorem dX5_build_59 : decode cX5_build 59 = .ok (.ireturn, 1) := by decide +kernel
set_option maxRecDepth 20000 in
theorem ggX5_about_X3_madePage : GoodIn wsX5_about wsX3_madePage := goodIn_r _ [8, 9, 10, 11, 12, 13, 14, 15, 37, 38, 39, 40] (by decide +kernel) (by decide +kernel)
set_option maxRecDepth 20000 in
theorem gX5_about_X3_madePage : GoodIn wsX5_about (wsV RX5 111 RX3 yX3_madePage wsX3_madePage) := goodIn_app (goodIn_of _ (by decide +kernel)) ggX5_about_X3_madePage
set_option maxRecDepth 20000 in
theorem ggX5_about_X0_size : GoodIn wsX5_about wsX0_size := goodIn_r _ [20, 21, 41, 42] (by decide +kernel) (by decide +kernel)
set_option maxRecDepth 20000 in
theorem gX5_about_X0_size : GoodIn wsX5_about (wsV RX5 89 RX0 yX0_size wsX0_size) := goodIn_app (goodIn_of _ (by decide +kernel)) ggX5_about_X0_size
theorem dX5_about_0 : decode cX5_about 0 = .ok (.aload_n 0, 1) := by decide +kernel
theorem dX5_about_1 : decode cX5_about 1 = .ok (.getfield 28, 3) := by decide +kernel
theorem dX5_about_4 : decode cX5_about 4 = .ok (.iload_n 1, 1) := by decide +kernel
theorem dX5_about_5 : decode cX5_about 5 = .ok (.invokevirtual 111, 3) := by decide +kernel
theorem dX5_about_8 : decode cX5_about 8 = .ok (.astore_n 3, 1) := by decide +kernel
theorem dX5_about_9 : decode cX5_about 9 = .ok (.aload_n 3, 1) := by decide +kernel
theorem dX5_about_10 : decode cX5_about 10 = .ok (.ifnonnull 13, 3) := by decide +kernel
theorem dX5_about_13 : decode cX5_about 13 = .ok (.new 115, 3) := by decide +kernel
theorem dX5_about_16 : decode cX5_about 16 = .ok (.dup, 1) := by decide +kernel
theorem dX5_about_17 : decode cX5_about 17 = .ok (.ldc 117, 2) := by decide +kernel
theorem dX5_about_19 : decode cX5_about 19 = .ok (.invokespecial 119, 3) := by decide +kernel
theorem dX5_about_22 : decode cX5_about 22 = .ok (.athrow, 1) := by decide +kernel
theorem dX5_about_23 : decode cX5_about 23 = .ok (.iload_n 2, 1) := by decide +kernel
theorem dX5_about_24 : decode cX5_about 24 = .ok (.tableswitch 55 0 3 #[32, 37, 42, 47], 32) := by decide +kernel
theorem dX5_about_56 : decode cX5_about 56 = .ok (.aload_n 3, 1) := by decide +kernel
theorem dX5_about_57 : decode cX5_about 57 = .ok (.getfield 120, 3) := by decide +kernel
theorem dX5_about_60 : decode cX5_about 60 = .ok (.ireturn, 1) := by decide +kernel
theorem dX5_about_61 : decode cX5_about 61 = .ok (.aload_n 3, 1) := by decide +kernel
theorem dX5_about_62 : decode cX5_about 62 = .ok (.getfield 125, 3) := by decide +kernel
theorem dX5_about_65 : decode cX5_about 65 = .ok (.ireturn, 1) := by decide +kernel
theorem dX5_about_66 : decode cX5_about 66 = .ok (.aload_n 3, 1) := by decide +kernel
theorem dX5_about_67 : decode cX5_about 67 = .ok (.getfield 128, 3) := by decide +kernel
theorem dX5_about_70 : decode cX5_about 70 = .ok (.ireturn, 1) := by decide +kernel
theorem dX5_about_71 : decode cX5_about 71 = .ok (.aload_n 3, 1) := by decide +kernel
theorem dX5_about_72 : decode cX5_about 72 = .ok (.getfield 131, 3) := by decide +kernel
theorem dX5_about_75 : decode cX5_about 75 = .ok (.invokevirtual 89, 3) := by decide +kernel
theorem dX5_about_78 : decode cX5_about 78 = .ok (.ireturn, 1) := by decide +kernel
theorem dX5_about_79 : decode cX5_about 79 = .ok (.new 115, 3) := by decide +kernel
theorem dX5_about_82 : decode cX5_about 82 = .ok (.dup, 1) := by decide +kernel
theorem dX5_about_83 : decode cX5_about 83 = .ok (.ldc 134, 2) := by decide +kernel
theorem dX5_about_85 : decode cX5_about 85 = .ok (.invokespecial 119, 3) := by decide +kernel
theorem dX5_about_88 : decode cX5_about 88 = .ok (.athrow, 1) := by decide +kernel
set_option maxRecDepth 20000 in
theorem ggX5_item_X3_madePage : GoodIn wsX5_item wsX3_madePage := goodIn_r _ [8, 9, 10, 11, 12, 13, 14, 15, 42, 43, 44, 45] (by decide +kernel) (by decide +kernel)
set_option maxRecDepth 20000 in
theorem gX5_item_X3_madePage : GoodIn wsX5_item (wsV RX5 111 RX3 yX3_madePage wsX3_madePage) := goodIn_app (goodIn_of _ (by decide +kernel)) ggX5_item_X3_madePage
set_option maxRecDepth 20000 in
theorem ggX5_item_X0_size : GoodIn wsX5_item wsX0_size := goodIn_r _ [20, 21, 46, 47] (by decide +kernel) (by decide +kernel)
set_option maxRecDepth 20000 in
theorem gX5_item_X0_size : GoodIn wsX5_item (wsV RX5 89 RX0 yX0_size wsX0_size) := goodIn_app (goodIn_of _ (by decide +kernel)) ggX5_item_X0_size
set_option maxRecDepth 20000 in
theorem ggX5_item_X0_at : GoodIn wsX5_item wsX0_at := goodIn_r _ [25, 21, 26, 46, 47] (by decide +kernel) (by decide +kernel)
set_option maxRecDepth 20000 in
theorem gX5_item_X0_at : GoodIn wsX5_item (wsV RX5 138 RX0 yX0_at wsX0_at) := goodIn_app (goodIn_of _ (by decide +kernel)) ggX5_item_X0_at
theorem dX5_item_0 : decode cX5_item 0 = .ok (.aload_n 0, 1) := by decide +kernel
theorem dX5_item_1 : decode cX5_item 1 = .ok (.getfield 28, 3) := by decide +kernel
theorem dX5_item_4 : decode cX5_item 4 = .ok (.iload_n 1, 1) := by decide +kernel
theorem dX5_item_5 : decode cX5_item 5 = .ok (.invokevirtual 111, 3) := by decide +kernel
theorem dX5_item_8 : decode cX5_item 8 = .ok (.astore 4, 2) := by decide +kernel
theorem dX5_item_10 : decode cX5_item 10 = .ok (.aload 4, 2) := by decide +kernel
theorem dX5_item_12 : decode cX5_item 12 = .ok (.ifnonnull 13, 3) := by decide +kernel
theorem dX5_item_15 : decode cX5_item 15 = .ok (.new 115, 3) := by decide +kernel
theorem dX5_item_18 : decode cX5_item 18 = .ok (.dup, 1) := by decide +kernel
theorem dX5_item_19 : decode cX5_item 19 = .ok (.ldc 117, 2) := by decide +kernel
theorem dX5_item_21 : decode cX5_item 21 = .ok (.invokespecial 119, 3) := by decide +kernel
theorem dX5_item_24 : decode cX5_item 24 = .ok (.athrow, 1) := by decide +kernel
theorem dX5_item_25 : decode cX5_item 25 = .ok (.iload_n 2, 1) := by decide +kernel
theorem dX5_item_26 : decode cX5_item 26 = .ok (.ifCond .lt 15, 3) := by decide +kernel
theorem dX5_item_29 : decode cX5_item 29 = .ok (.iload_n 2, 1) := by decide +kernel
theorem dX5_item_30 : decode cX5_item 30 = .ok (.aload 4, 2) := by decide +kernel
theorem dX5_item_32 : decode cX5_item 32 = .ok (.getfield 131, 3) := by decide +kernel
theorem dX5_item_35 : decode cX5_item 35 = .ok (.invokevirtual 89, 3) := by decide +kernel
theorem dX5_item_38 : decode cX5_item 38 = .ok (.if_icmp .lt 13, 3) := by decide +kernel
theorem dX5_item_41 : decode cX5_item 41 = .ok (.new 115, 3) := by decide +kernel
theorem dX5_item_44 : decode cX5_item 44 = .ok (.dup, 1) := by decide +kernel
theorem dX5_item_45 : decode cX5_item 45 = .ok (.ldc 136, 2) := by decide +kernel
theorem dX5_item_47 : decode cX5_item 47 = .ok (.invokespecial 119, 3) := by decide +kernel
theorem dX5_item_50 : decode cX5_item 50 = .ok (.athrow, 1) := by decide +kernel
theorem dX5_item_51 : decode cX5_item 51 = .ok (.iload_n 3, 1) := by decide +kernel
theorem dX5_item_52 : decode cX5_item 52 = .ok (.ifCond .lt 8, 3) := by decide +kernel
theorem dX5_item_55 : decode cX5_item 55 = .ok (.iload_n 3, 1) := by decide +kernel
theorem dX5_item_56 : decode cX5_item 56 = .ok (.iconst 3, 1) := by decide +kernel
theorem dX5_item_57 : decode cX5_item 57 = .ok (.if_icmp .le 13, 3) := by decide +kernel
theorem dX5_item_60 : decode cX5_item 60 = .ok (.new 115, 3) := by decide +kernel
theorem dX5_item_63 : decode cX5_item 63 = .ok (.dup, 1) := by decide +kernel
theorem dX5_item_64 : decode cX5_item 64 = .ok (.ldc 134, 2) := by decide +kernel
theorem dX5_item_66 : decode cX5_item 66 = .ok (.invokespecial 119, 3) := by decide +kernel
theorem dX5_item_69 : decode cX5_item 69 = .ok (.athrow, 1) := by decide +kernel
theorem dX5_item_70 : decode cX5_item 70 = .ok (.aload 4, 2) := by decide +kernel
theorem dX5_item_72 : decode cX5_item 72 = .ok (.getfield 131, 3) := by decide +kernel
theorem dX5_item_75 : decode cX5_item 75 = .ok (.iload_n 2, 1) := by decide +kernel
theorem dX5_item_76 : decode cX5_item 76 = .ok (.iload_n 3, 1) := by decide +kernel
theorem dX5_item_77 : decode cX5_item 77 = .ok (.invokevirtual 138, 3) := by decide +kernel
theorem dX5_item_80 : decode cX5_item 80 = .ok (.ireturn, 1) := by decide +kernel
set_option maxRecDepth 20000 in
theorem ggX5_count_X5_toCome : GoodIn wsX5_count wsX5_toCome := goodIn_r _ [7, 8, 9, 10, 11, 12, 13, 14, 15, 26, 27, 28, 29, 30, 31, 32, 33, 34, 35, 36, 41, 42] (by decide +kernel) (by decide +kernel)
set_option maxRecDepth 20000 in
theorem gX5_count_X5_toCome : GoodIn wsX5_count (wsV RX5 145 RX5 yX5_toCome wsX5_toCome) := goodIn_app (goodIn_of _ (by decide +kernel)) ggX5_count_X5_toCome
set_option maxRecDepth 20000 in
theorem ggX5_count_X5_onPage : GoodIn wsX5_count wsX5_onPage := goodIn_r _ [19, 2, 9, 26, 27, 28, 29, 30, 31, 32, 33, 34, 35, 36, 43, 44, 45, 46, 47, 48] (by decide +kernel) (by decide +kernel)
set_option maxRecDepth 20000 in
theorem gX5_count_X5_onPage : GoodIn wsX5_count (wsV RX5 148 RX5 yX5_onPage wsX5_onPage) := goodIn_app (goodIn_of _ (by decide +kernel)) ggX5_count_X5_onPage
set_option maxRecDepth 20000 in
theorem ggX5_count_X2_hasBest : GoodIn wsX5_count wsX2_hasBest := goodIn_r _ [24, 25, 43, 44, 45, 46, 47, 48] (by decide +kernel) (by decide +kernel)
set_option maxRecDepth 20000 in
theorem gX5_count_X2_hasBest : GoodIn wsX5_count (wsV RX5 151 RX2 yX2_hasBest wsX2_hasBest) := goodIn_app (goodIn_of _ (by decide +kernel)) ggX5_count_X2_hasBest
theorem dX5_count_0 : decode cX5_count 0 = .ok (.iload_n 1, 1) := by decide +kernel
theorem dX5_count_1 : decode cX5_count 1 = .ok (.tableswitch 65 0 3 #[31, 39, 44, 49], 31) := by decide +kernel
theorem dX5_count_32 : decode cX5_count 32 = .ok (.aload_n 0, 1) := by decide +kernel
theorem dX5_count_33 : decode cX5_count 33 = .ok (.getfield 28, 3) := by decide +kernel
theorem dX5_count_36 : decode cX5_count 36 = .ok (.getfield 142, 3) := by decide +kernel
theorem dX5_count_39 : decode cX5_count 39 = .ok (.ireturn, 1) := by decide +kernel
theorem dX5_count_40 : decode cX5_count 40 = .ok (.aload_n 0, 1) := by decide +kernel
theorem dX5_count_41 : decode cX5_count 41 = .ok (.invokevirtual 145, 3) := by decide +kernel
theorem dX5_count_44 : decode cX5_count 44 = .ok (.ireturn, 1) := by decide +kernel
theorem dX5_count_45 : decode cX5_count 45 = .ok (.aload_n 0, 1) := by decide +kernel
theorem dX5_count_46 : decode cX5_count 46 = .ok (.invokevirtual 148, 3) := by decide +kernel
theorem dX5_count_49 : decode cX5_count 49 = .ok (.ireturn, 1) := by decide +kernel
theorem dX5_count_50 : decode cX5_count 50 = .ok (.aload_n 0, 1) := by decide +kernel
theorem dX5_count_51 : decode cX5_count 51 = .ok (.getfield 21, 3) := by decide +kernel
theorem dX5_count_54 : decode cX5_count 54 = .ok (.invokevirtual 151, 3) := by decide +kernel
theorem dX5_count_57 : decode cX5_count 57 = .ok (.ifCond .eq 7, 3) := by decide +kernel
theorem dX5_count_60 : decode cX5_count 60 = .ok (.iconst 1, 1) := by decide +kernel
theorem dX5_count_61 : decode cX5_count 61 = .ok (.goto 4, 3) := by decide +kernel
theorem dX5_count_64 : decode cX5_count 64 = .ok (.iconst 0, 1) := by decide +kernel
theorem dX5_count_65 : decode cX5_count 65 = .ok (.ireturn, 1) := by decide +kernel
theorem dX5_count_66 : decode cX5_count 66 = .ok (.iconst (-1), 1) := by decide +kernel
theorem dX5_count_67 : decode cX5_count 67 = .ok (.ireturn, 1) := by decide +kernel
set_option maxRecDepth 20000 in
theorem ggX5_sum_X4_total : GoodIn wsX5_sum wsX4_total := goodIn_r _ [6, 7, 8, 37, 38, 39, 40, 41, 42] (by decide +kernel) (by decide +kernel)
set_option maxRecDepth 20000 in
theorem gX5_sum_X4_total : GoodIn wsX5_sum (wsV RX5 161 RX4 yX4_total wsX4_total) := goodIn_app (goodIn_of _ (by decide +kernel)) ggX5_sum_X4_total
set_option maxRecDepth 20000 in
theorem ggX5_sum_X4_stretchOf : GoodIn wsX5_sum wsX4_stretchOf := goodIn_r _ [12, 13, 37, 38, 39, 40, 41, 42] (by decide +kernel) (by decide +kernel)
set_option maxRecDepth 20000 in
theorem gX5_sum_X4_stretchOf : GoodIn wsX5_sum (wsV RX5 171 RX4 yX4_stretchOf wsX4_stretchOf) := goodIn_app (goodIn_of _ (by decide +kernel)) ggX5_sum_X4_stretchOf
set_option maxRecDepth 20000 in
theorem ggX5_sum_X2_hasBest : GoodIn wsX5_sum wsX2_hasBest := goodIn_r _ [18, 19, 31, 32, 33, 34, 35, 36] (by decide +kernel) (by decide +kernel)
set_option maxRecDepth 20000 in
theorem gX5_sum_X2_hasBest : GoodIn wsX5_sum (wsV RX5 151 RX2 yX2_hasBest wsX2_hasBest) := goodIn_app (goodIn_of _ (by decide +kernel)) ggX5_sum_X2_hasBest
theorem dX5_sum_0 : decode cX5_sum 0 = .ok (.aload_n 0, 1) := by decide +kernel
theorem dX5_sum_1 : decode cX5_sum 1 = .ok (.getfield 21, 3) := by decide +kernel
theorem dX5_sum_4 : decode cX5_sum 4 = .ok (.getfield 154, 3) := by decide +kernel
theorem dX5_sum_7 : decode cX5_sum 7 = .ok (.ifCond .ne 5, 3) := by decide +kernel
theorem dX5_sum_10 : decode cX5_sum 10 = .ok (.lconst 0, 1) := by decide +kernel
theorem dX5_sum_11 : decode cX5_sum 11 = .ok (.lreturn, 1) := by decide +kernel
theorem dX5_sum_12 : decode cX5_sum 12 = .ok (.iload_n 1, 1) := by decide +kernel
theorem dX5_sum_13 : decode cX5_sum 13 = .ok (.tableswitch 102 0 4 #[35, 46, 57, 68, 80], 35) := by decide +kernel
theorem dX5_sum_48 : decode cX5_sum 48 = .ok (.aload_n 0, 1) := by decide +kernel
theorem dX5_sum_49 : decode cX5_sum 49 = .ok (.getfield 21, 3) := by decide +kernel
theorem dX5_sum_52 : decode cX5_sum 52 = .ok (.getfield 158, 3) := by decide +kernel
theorem dX5_sum_55 : decode cX5_sum 55 = .ok (.invokevirtual 161, 3) := by decide +kernel
theorem dX5_sum_58 : decode cX5_sum 58 = .ok (.lreturn, 1) := by decide +kernel
theorem dX5_sum_59 : decode cX5_sum 59 = .ok (.aload_n 0, 1) := by decide +kernel
theorem dX5_sum_60 : decode cX5_sum 60 = .ok (.getfield 21, 3) := by decide +kernel
theorem dX5_sum_63 : decode cX5_sum 63 = .ok (.getfield 158, 3) := by decide +kernel
theorem dX5_sum_66 : decode cX5_sum 66 = .ok (.getfield 165, 3) := by decide +kernel
theorem dX5_sum_69 : decode cX5_sum 69 = .ok (.lreturn, 1) := by decide +kernel
theorem dX5_sum_70 : decode cX5_sum 70 = .ok (.aload_n 0, 1) := by decide +kernel
theorem dX5_sum_71 : decode cX5_sum 71 = .ok (.getfield 21, 3) := by decide +kernel
theorem dX5_sum_74 : decode cX5_sum 74 = .ok (.getfield 158, 3) := by decide +kernel
theorem dX5_sum_77 : decode cX5_sum 77 = .ok (.getfield 168, 3) := by decide +kernel
theorem dX5_sum_80 : decode cX5_sum 80 = .ok (.lreturn, 1) := by decide +kernel
theorem dX5_sum_81 : decode cX5_sum 81 = .ok (.aload_n 0, 1) := by decide +kernel
theorem dX5_sum_82 : decode cX5_sum 82 = .ok (.getfield 21, 3) := by decide +kernel
theorem dX5_sum_85 : decode cX5_sum 85 = .ok (.getfield 158, 3) := by decide +kernel
theorem dX5_sum_88 : decode cX5_sum 88 = .ok (.iconst 0, 1) := by decide +kernel
theorem dX5_sum_89 : decode cX5_sum 89 = .ok (.invokevirtual 171, 3) := by decide +kernel
theorem dX5_sum_92 : decode cX5_sum 92 = .ok (.lreturn, 1) := by decide +kernel
theorem dX5_sum_93 : decode cX5_sum 93 = .ok (.aload_n 0, 1) := by decide +kernel
theorem dX5_sum_94 : decode cX5_sum 94 = .ok (.getfield 21, 3) := by decide +kernel
theorem dX5_sum_97 : decode cX5_sum 97 = .ok (.invokevirtual 151, 3) := by decide +kernel
theorem dX5_sum_100 : decode cX5_sum 100 = .ok (.ifCond .eq 13, 3) := by decide +kernel
theorem dX5_sum_103 : decode cX5_sum 103 = .ok (.aload_n 0, 1) := by decide +kernel
theorem dX5_sum_104 : decode cX5_sum 104 = .ok (.getfield 21, 3) := by decide +kernel
theorem dX5_sum_107 : decode cX5_sum 107 = .ok (.getfield 175, 3) := by decide +kernel
theorem dX5_sum_110 : decode cX5_sum 110 = .ok (.goto 4, 3) := by decide +kernel
theorem dX5_sum_113 : decode cX5_sum 113 = .ok (.lconst 0, 1) := by decide +kernel
theorem dX5_sum_114 : decode cX5_sum 114 = .ok (.lreturn, 1) := by decide +kernel
theorem dX5_sum_115 : decode cX5_sum 115 = .ok (.lconst 0, 1) := by decide +kernel
theorem dX5_sum_116 : decode cX5_sum 116 = .ok (.lreturn, 1) := by decide +kernel
set_option maxRecDepth 20000 in
theorem ggX5_addSolid_X5_isSize : GoodIn wsX5_addSolid wsX5_isSize := goodIn_r _ [5, 6, 7] (by decide +kernel) (by decide +kernel)
set_option maxRecDepth 20000 in
theorem gX5_addSolid_X5_isSize : GoodIn wsX5_addSolid (va_wsS RX5 47 yX5_isSize wsX5_isSize) := goodIn_app (goodIn_of _ (by decide +kernel)) ggX5_addSolid_X5_isSize
set_option maxRecDepth 20000 in
theorem ggX5_addSolid_X5_isFull : GoodIn wsX5_addSolid wsX5_isFull := goodIn_r _ [11, 12, 13, 14, 15, 4, 16, 17, 18, 19, 20, 21, 22, 1, 23, 24, 25, 26, 27, 28, 29, 30, 31, 32, 33, 34, 35, 36, 37, 38, 39, 40, 41, 42, 43, 44, 45, 90, 91, 92, 93, 94, 95, 96, 97, 98, 99, 100, 101, 102, 103, 104, 105, 106, 107, 108, 109, 110, 111, 112, 113, 114, 115, 116] (by decide +kernel) (by decide +kernel)
set_option maxRecDepth 20000 in
theorem gX5_addSolid_X5_isFull : GoodIn wsX5_addSolid (wsV RX5 77 RX5 yX5_isFull wsX5_isFull) := goodIn_app (goodIn_of _ (by decide +kernel)) ggX5_addSolid_X5_isFull
set_option maxRecDepth 20000 in
theorem ggX5_addSolid_X0_append : GoodIn wsX5_addSolid wsX0_append := goodIn_r _ [49, 28, 50, 51, 52, 53, 26, 54, 55, 56, 57, 58, 59, 60, 61, 62, 63, 64, 65, 66, 67, 68, 69, 70, 71, 72, 73, 74, 75, 76, 77, 107, 108] (by decide +kernel) (by decide +kernel)
set_option maxRecDepth 20000 in
theorem gX5_addSolid_X0_append : GoodIn wsX5_addSolid (wsV RX5 39 RX0 yX0_append wsX0_append) := goodIn_app (goodIn_of _ (by decide +kernel)) ggX5_addSolid_X0_append
set_option maxRecDepth 20000 in
theorem ggX5_addSolid_X0_makeSolid : GoodIn wsX5_addSolid wsX0_makeSolid := goodIn_r _ [81, 82, 83, 84, 26, 85, 86, 87, 88, 89, 28, 50, 107, 108] (by decide +kernel) (by decide +kernel)
set_option maxRecDepth 20000 in
theorem gX5_addSolid_X0_makeSolid : GoodIn wsX5_addSolid (wsV RX5 178 RX0 yX0_makeSolid wsX0_makeSolid) := goodIn_app (goodIn_of _ (by decide +kernel)) ggX5_addSolid_X0_makeSolid
theorem dX5_addSolid_0 : decode cX5_addSolid 0 = .ok (.iload_n 2, 1) := by decide +kernel
theorem dX5_addSolid_1 : decode cX5_addSolid 1 = .ok (.i2l, 1) := by decide +kernel
theorem dX5_addSolid_2 : decode cX5_addSolid 2 = .ok (.invokestatic 47, 3) := by decide +kernel
theorem dX5_addSolid_5 : decode cX5_addSolid 5 = .ok (.ifCond .eq 33, 3) := by decide +kernel
theorem dX5_addSolid_8 : decode cX5_addSolid 8 = .ok (.iload_n 3, 1) := by decide +kernel
theorem dX5_addSolid_9 : decode cX5_addSolid 9 = .ok (.i2l, 1) := by decide +kernel
theorem dX5_addSolid_10 : decode cX5_addSolid 10 = .ok (.invokestatic 47, 3) := by decide +kernel
theorem dX5_addSolid_13 : decode cX5_addSolid 13 = .ok (.ifCond .eq 25, 3) := by decide +kernel
theorem dX5_addSolid_16 : decode cX5_addSolid 16 = .ok (.iload 4, 2) := by decide +kernel
theorem dX5_addSolid_18 : decode cX5_addSolid 18 = .ok (.i2l, 1) := by decide +kernel
theorem dX5_addSolid_19 : decode cX5_addSolid 19 = .ok (.invokestatic 47, 3) := by decide +kernel
theorem dX5_addSolid_22 : decode cX5_addSolid 22 = .ok (.ifCond .eq 16, 3) := by decide +kernel
theorem dX5_addSolid_25 : decode cX5_addSolid 25 = .ok (.iload 5, 2) := by decide +kernel
theorem dX5_addSolid_27 : decode cX5_addSolid 27 = .ok (.i2l, 1) := by decide +kernel
theorem dX5_addSolid_28 : decode cX5_addSolid 28 = .ok (.invokestatic 47, 3) := by decide +kernel
theorem dX5_addSolid_31 : decode cX5_addSolid 31 = .ok (.ifCond .eq 7, 3) := by decide +kernel
theorem dX5_addSolid_34 : decode cX5_addSolid 34 = .ok (.iconst 1, 1) := by decide +kernel
theorem dX5_addSolid_35 : decode cX5_addSolid 35 = .ok (.goto 4, 3) := by decide +kernel
theorem dX5_addSolid_38 : decode cX5_addSolid 38 = .ok (.iconst 0, 1) := by decide +kernel
theorem dX5_addSolid_39 : decode cX5_addSolid 39 = .ok (.istore 6, 2) := by decide +kernel
theorem dX5_addSolid_41 : decode cX5_addSolid 41 = .ok (.iload 6, 2) := by decide +kernel
theorem dX5_addSolid_43 : decode cX5_addSolid 43 = .ok (.ifCond .eq 10, 3) := by decide +kernel
theorem dX5_addSolid_46 : decode cX5_addSolid 46 = .ok (.aload_n 0, 1) := by decide +kernel
theorem dX5_addSolid_47 : decode cX5_addSolid 47 = .ok (.invokevirtual 77, 3) := by decide +kernel
theorem dX5_addSolid_50 : decode cX5_addSolid 50 = .ok (.ifCond .eq 5, 3) := by decide +kernel
theorem dX5_addSolid_53 : decode cX5_addSolid 53 = .ok (.iconst 0, 1) := by decide +kernel
theorem dX5_addSolid_54 : decode cX5_addSolid 54 = .ok (.ireturn, 1) := by decide +kernel
theorem dX5_addSolid_55 : decode cX5_addSolid 55 = .ok (.aload_n 0, 1) := by decide +kernel
theorem dX5_addSolid_56 : decode cX5_addSolid 56 = .ok (.getfield 14, 3) := by decide +kernel
theorem dX5_addSolid_59 : decode cX5_addSolid 59 = .ok (.aload_n 0, 1) := by decide +kernel
theorem dX5_addSolid_60 : decode cX5_addSolid 60 = .ok (.getfield 14, 3) := by decide +kernel
theorem dX5_addSolid_63 : decode cX5_addSolid 63 = .ok (.invokevirtual 39, 3) := by decide +kernel
theorem dX5_addSolid_66 : decode cX5_addSolid 66 = .ok (.iload_n 1, 1) := by decide +kernel
theorem dX5_addSolid_67 : decode cX5_addSolid 67 = .ok (.iload_n 2, 1) := by decide +kernel
theorem dX5_addSolid_68 : decode cX5_addSolid 68 = .ok (.iload_n 3, 1) := by decide +kernel
theorem dX5_addSolid_69 : decode cX5_addSolid 69 = .ok (.iload 4, 2) := by decide +kernel
theorem dX5_addSolid_71 : decode cX5_addSolid 71 = .ok (.iload 5, 2) := by decide +kernel
theorem dX5_addSolid_73 : decode cX5_addSolid 73 = .ok (.invokevirtual 178, 3) := by decide +kernel
theorem dX5_addSolid_76 : decode cX5_addSolid 76 = .ok (.iconst 1, 1) := by decide +kernel
theorem dX5_addSolid_77 : decode cX5_addSolid 77 = .ok (.ireturn, 1) := by decide +kernel
set_option maxRecDepth 20000 in
theorem ggX5_isFull_X5_onPage : GoodIn wsX5_isFull wsX5_onPage := goodIn_r _ [6, 7, 8, 37, 38, 39, 40, 41, 42, 43, 44, 45, 46, 47, 48, 49, 50, 51, 52, 53] (by decide +kernel) (by decide +kernel)
set_option maxRecDepth 20000 in
theorem gX5_isFull_X5_onPage : GoodIn wsX5_isFull (wsV RX5 148 RX5 yX5_onPage wsX5_onPage) := goodIn_app (goodIn_of _ (by decide +kernel)) ggX5_isFull_X5_onPage
set_option maxRecDepth 20000 in
theorem ggX5_isFull_X5_toCome : GoodIn wsX5_isFull wsX5_toCome := goodIn_r _ [12, 13, 8, 14, 15, 16, 17, 18, 19, 37, 38, 39, 40, 41, 42, 43, 44, 45, 46, 47, 54, 55] (by decide +kernel) (by decide +kernel)
set_option maxRecDepth 20000 in
theorem gX5_isFull_X5_toCome : GoodIn wsX5_isFull (wsV RX5 145 RX5 yX5_toCome wsX5_toCome) := goodIn_app (goodIn_of _ (by decide +kernel)) ggX5_isFull_X5_toCome
set_option maxRecDepth 20000 in
theorem ggX5_isFull_X3_held : GoodIn wsX5_isFull wsX3_held := goodIn_r _ [24, 25, 26, 27, 28, 23, 29, 30, 31, 32, 33, 34, 35, 36, 15, 16, 17, 18, 19, 56, 57, 58, 59, 60, 61, 62, 63, 54, 55] (by decide +kernel) (by decide +kernel)
set_option maxRecDepth 20000 in
theorem gX5_isFull_X3_held : GoodIn wsX5_isFull (wsV RX5 182 RX3 yX3_held wsX3_held) := goodIn_app (goodIn_of _ (by decide +kernel)) ggX5_isFull_X3_held
theorem dX5_isFull_0 : decode cX5_isFull 0 = .ok (.aload_n 0, 1) := by decide +kernel
theorem dX5_isFull_1 : decode cX5_isFull 1 = .ok (.invokevirtual 148, 3) := by decide +kernel
theorem dX5_isFull_4 : decode cX5_isFull 4 = .ok (.aload_n 0, 1) := by decide +kernel
theorem dX5_isFull_5 : decode cX5_isFull 5 = .ok (.invokevirtual 145, 3) := by decide +kernel
theorem dX5_isFull_8 : decode cX5_isFull 8 = .ok (.iadd, 1) := by decide +kernel
theorem dX5_isFull_9 : decode cX5_isFull 9 = .ok (.aload_n 0, 1) := by decide +kernel
theorem dX5_isFull_10 : decode cX5_isFull 10 = .ok (.getfield 28, 3) := by decide +kernel
theorem dX5_isFull_13 : decode cX5_isFull 13 = .ok (.invokevirtual 182, 3) := by decide +kernel
theorem dX5_isFull_16 : decode cX5_isFull 16 = .ok (.iadd, 1) := by decide +kernel
theorem dX5_isFull_17 : decode cX5_isFull 17 = .ok (.sipush 4000, 3) := by decide +kernel
theorem dX5_isFull_20 : decode cX5_isFull 20 = .ok (.if_icmp .lt 7, 3) := by decide +kernel
theorem dX5_isFull_23 : decode cX5_isFull 23 = .ok (.iconst 1, 1) := by decide +kernel
theorem dX5_isFull_24 : decode cX5_isFull 24 = .ok (.goto 4, 3) := by decide +kernel
theorem dX5_isFull_27 : decode cX5_isFull 27 = .ok (.iconst 0, 1) := by decide +kernel
theorem dX5_isFull_28 : decode cX5_isFull 28 = .ok (.ireturn, 1) := by decide +kernel
set_option maxRecDepth 20000 in
theorem ggX5_toCome_X0_size : GoodIn wsX5_toCome wsX0_size := goodIn_r _ [7, 8, 20, 21] (by decide +kernel) (by decide +kernel)
set_option maxRecDepth 20000 in
theorem gX5_toCome_X0_size : GoodIn wsX5_toCome (wsV RX5 89 RX0 yX0_size wsX0_size) := goodIn_app (goodIn_of _ (by decide +kernel)) ggX5_toCome_X0_size
theorem dX5_toCome_0 : decode cX5_toCome 0 = .ok (.aload_n 0, 1) := by decide +kernel
theorem dX5_toCome_1 : decode cX5_toCome 1 = .ok (.getfield 14, 3) := by decide +kernel
theorem dX5_toCome_4 : decode cX5_toCome 4 = .ok (.invokevirtual 89, 3) := by decide +kernel
theorem dX5_toCome_7 : decode cX5_toCome 7 = .ok (.aload_n 0, 1) := by decide +kernel
theorem dX5_toCome_8 : decode cX5_toCome 8 = .ok (.getfield 43, 3) := by decide +kernel
theorem dX5_toCome_11 : decode cX5_toCome 11 = .ok (.isub, 1) := by decide +kernel
theorem dX5_toCome_12 : decode cX5_toCome 12 = .ok (.ireturn, 1) := by decide +kernel
theorem dX5_onPage_0 : decode cX5_onPage 0 = .ok (.aload_n 0, 1) := by decide +kernel
theorem dX5_onPage_1 : decode cX5_onPage 1 = .ok (.getfield 21, 3) := by decide +kernel
theorem dX5_onPage_4 : decode cX5_onPage 4 = .ok (.getfield 154, 3) := by decide +kernel
theorem dX5_onPage_7 : decode cX5_onPage 7 = .ok (.ifCond .eq 18, 3) := by decide +kernel
theorem dX5_onPage_10 : decode cX5_onPage 10 = .ok (.aload_n 0, 1) := by decide +kernel
theorem dX5_onPage_11 : decode cX5_onPage 11 = .ok (.getfield 43, 3) := by decide +kernel
theorem dX5_onPage_14 : decode cX5_onPage 14 = .ok (.aload_n 0, 1) := by decide +kernel
theorem dX5_onPage_15 : decode cX5_onPage 15 = .ok (.getfield 21, 3) := by decide +kernel
theorem dX5_onPage_18 : decode cX5_onPage 18 = .ok (.getfield 185, 3) := by decide +kernel
theorem dX5_onPage_21 : decode cX5_onPage 21 = .ok (.isub, 1) := by decide +kernel
theorem dX5_onPage_22 : decode cX5_onPage 22 = .ok (.goto 4, 3) := by decide +kernel
theorem dX5_onPage_25 : decode cX5_onPage 25 = .ok (.iconst 0, 1) := by decide +kernel
theorem dX5_onPage_26 : decode cX5_onPage 26 = .ok (.ireturn, 1) := by decide +kernel
set_option maxRecDepth 20000 in
theorem ggX5_fillPage_X5_toCome : GoodIn wsX5_fillPage wsX5_toCome := goodIn_r _ [8, 1, 2, 9, 10, 11, 12, 13, 14, 143, 144, 145, 146, 147, 148, 149, 150, 151, 152, 153, 160, 161] (by decide +kernel) (by decide +kernel)
set_option maxRecDepth 20000 in
theorem gX5_fillPage_X5_toCome : GoodIn wsX5_fillPage (wsV RX5 145 RX5 yX5_toCome wsX5_toCome) := goodIn_app (goodIn_of _ (by decide +kernel)) ggX5_fillPage_X5_toCome
set_option maxRecDepth 20000 in
theorem ggX5_fillPage_X0_at : GoodIn wsX5_fillPage wsX0_at := goodIn_r _ [18, 14, 19, 160, 161] (by decide +kernel) (by decide +kernel)
set_option maxRecDepth 20000 in
theorem gX5_fillPage_X0_at : GoodIn wsX5_fillPage (wsV RX5 138 RX0 yX0_at wsX0_at) := goodIn_app (goodIn_of _ (by decide +kernel)) ggX5_fillPage_X0_at
set_option maxRecDepth 20000 in
theorem ggX5_fillPage_X5_isSolid : GoodIn wsX5_fillPage wsX5_isSolid := goodIn_r _ [22] (by decide +kernel) (by decide +kernel)
set_option maxRecDepth 20000 in
theorem gX5_fillPage_X5_isSolid : GoodIn wsX5_fillPage (va_wsS RX5 188 yX5_isSolid wsX5_isSolid) := goodIn_app (goodIn_of _ (by decide +kernel)) ggX5_fillPage_X5_isSolid
set_option maxRecDepth 20000 in
theorem ggX5_fillPage_X5_beginPage : GoodIn wsX5_fillPage wsX5_beginPage := goodIn_r _ [26, 2, 27, 1, 28, 29, 30, 31, 32, 33, 34, 3, 35, 36, 15, 16, 17, 12, 18, 14, 19, 37, 38, 39, 40, 41, 42, 43, 44, 45, 46, 47, 48, 49, 50, 51, 52, 53, 54, 55, 56, 57, 58, 59, 60, 61, 62, 63, 64, 65, 66, 67, 68, 69, 70, 71, 72, 73, 74, 75, 76, 77, 78, 79, 80, 81, 82, 83, 84, 85, 86, 87, 88, 89, 90, 91, 143, 144, 145, 146, 147, 148, 149, 150, 151, 152, 153, 154, 155, 156, 157, 158, 159, 160, 161, 162, 163, 164, 165, 166, 167] (by decide +kernel) (by decide +kernel)
set_option maxRecDepth 20000 in
theorem gX5_fillPage_X5_beginPage : GoodIn wsX5_fillPage (wsV RX5 192 RX5 yX5_beginPage wsX5_beginPage) := goodIn_app (goodIn_of _ (by decide +kernel)) ggX5_fillPage_X5_beginPage
set_option maxRecDepth 20000 in
theorem ggX5_fillPage_X5_isBreak : GoodIn wsX5_fillPage wsX5_isBreak := goodIn_r _ [95, 1, 2, 15, 16, 17, 12, 18, 14, 19, 20, 21, 7, 22, 4, 5, 6, 8, 9, 10, 11, 13, 143, 144, 145, 146, 147, 148, 149, 150, 151, 152, 153, 160, 161] (by decide +kernel) (by decide +kernel)
set_option maxRecDepth 20000 in
theorem gX5_fillPage_X5_isBreak : GoodIn wsX5_fillPage (wsV RX5 195 RX5 yX5_isBreak wsX5_isBreak) := goodIn_app (goodIn_of _ (by decide +kernel)) ggX5_fillPage_X5_isBreak
set_option maxRecDepth 20000 in
theorem ggX5_fillPage_X5_endsAtBreak : GoodIn wsX5_fillPage wsX5_endsAtBreak := goodIn_r _ [99, 1, 2, 3, 15, 16, 17, 12, 18, 14, 19, 100, 101, 102, 7, 103, 104, 105, 106, 52, 107, 108, 109, 110, 111, 112, 113, 114, 56, 57, 115, 116, 117, 61, 118, 65, 66, 119, 120, 121, 122, 123, 124, 125, 126, 127, 128, 129, 63, 130, 131, 132, 133, 134, 135, 136, 137, 138, 139, 140, 141, 142, 143, 144, 145, 146, 147, 148, 149, 150, 151, 152, 153, 160, 161, 154, 155, 156, 157, 158, 159, 162, 163, 164, 165, 166, 167] (by decide +kernel) (by decide +kernel)
set_option maxRecDepth 20000 in
theorem gX5_fillPage_X5_endsAtBreak : GoodIn wsX5_fillPage (wsV RX5 198 RX5 yX5_endsAtBreak wsX5_endsAtBreak) := goodIn_app (goodIn_of _ (by decide +kernel)) ggX5_fillPage_X5_endsAtBreak
set_option maxRecDepth 20000 in
theorem ggX5_fillPage_X4_take : GoodIn wsX5_fillPage wsX4_take := goodIn_r _ [76, 66, 65, 77, 16, 17, 12, 18, 14, 19, 78, 79, 80, 61, 81, 68, 82, 83, 30, 84, 67, 85, 86, 87, 88, 89, 90, 91, 64, 63, 162, 163, 164, 165, 166, 167, 160, 161] (by decide +kernel) (by decide +kernel)
set_option maxRecDepth 20000 in
theorem gX5_fillPage_X4_take : GoodIn wsX5_fillPage (wsV RX5 201 RX4 yX4_take wsX4_take) := goodIn_app (goodIn_of _ (by decide +kernel)) ggX5_fillPage_X4_take
theorem dX5_fillPage_0 : decode cX5_fillPage 0 = .ok (.aload_n 0, 1) := by decide +kernel
theorem dX5_fillPage_1 : decode cX5_fillPage 1 = .ok (.invokevirtual 145, 3) := by decide +kernel
theorem dX5_fillPage_4 : decode cX5_fillPage 4 = .ok (.istore_n 1, 1) := by decide +kernel
theorem dX5_fillPage_5 : decode cX5_fillPage 5 = .ok (.iconst 0, 1) := by decide +kernel
theorem dX5_fillPage_6 : decode cX5_fillPage 6 = .ok (.istore_n 2, 1) := by decide +kernel
theorem dX5_fillPage_7 : decode cX5_fillPage 7 = .ok (.iload_n 2, 1) := by decide +kernel
theorem dX5_fillPage_8 : decode cX5_fillPage 8 = .ok (.iload_n 1, 1) := by decide +kernel
theorem dX5_fillPage_9 : decode cX5_fillPage 9 = .ok (.if_icmp .ge 131, 3) := by decide +kernel
theorem dX5_fillPage_12 : decode cX5_fillPage 12 = .ok (.aload_n 0, 1) := by decide +kernel
theorem dX5_fillPage_13 : decode cX5_fillPage 13 = .ok (.getfield 14, 3) := by decide +kernel
theorem dX5_fillPage_16 : decode cX5_fillPage 16 = .ok (.aload_n 0, 1) := by decide +kernel
theorem dX5_fillPage_17 : decode cX5_fillPage 17 = .ok (.getfield 43, 3) := by decide +kernel
theorem dX5_fillPage_20 : decode cX5_fillPage 20 = .ok (.iconst 0, 1) := by decide +kernel
theorem dX5_fillPage_21 : decode cX5_fillPage 21 = .ok (.invokevirtual 138, 3) := by decide +kernel
theorem dX5_fillPage_24 : decode cX5_fillPage 24 = .ok (.istore_n 3, 1) := by decide +kernel
theorem dX5_fillPage_25 : decode cX5_fillPage 25 = .ok (.iload_n 3, 1) := by decide +kernel
theorem dX5_fillPage_26 : decode cX5_fillPage 26 = .ok (.bipush 6, 2) := by decide +kernel
theorem dX5_fillPage_28 : decode cX5_fillPage 28 = .ok (.if_icmp .ne 13, 3) := by decide +kernel
theorem dX5_fillPage_31 : decode cX5_fillPage 31 = .ok (.aload_n 0, 1) := by decide +kernel
theorem dX5_fillPage_32 : decode cX5_fillPage 32 = .ok (.invokevirtual 145, 3) := by decide +kernel
theorem dX5_fillPage_35 : decode cX5_fillPage 35 = .ok (.iconst 1, 1) := by decide +kernel
theorem dX5_fillPage_36 : decode cX5_fillPage 36 = .ok (.if_icmp .ne 5, 3) := by decide +kernel
theorem dX5_fillPage_39 : decode cX5_fillPage 39 = .ok (.iconst 0, 1) := by decide +kernel
theorem dX5_fillPage_40 : decode cX5_fillPage 40 = .ok (.ireturn, 1) := by decide +kernel
theorem dX5_fillPage_41 : decode cX5_fillPage 41 = .ok (.aload_n 0, 1) := by decide +kernel
theorem dX5_fillPage_42 : decode cX5_fillPage 42 = .ok (.getfield 21, 3) := by decide +kernel
theorem dX5_fillPage_45 : decode cX5_fillPage 45 = .ok (.getfield 154, 3) := by decide +kernel
theorem dX5_fillPage_48 : decode cX5_fillPage 48 = .ok (.ifCond .ne 23, 3) := by decide +kernel
theorem dX5_fillPage_51 : decode cX5_fillPage 51 = .ok (.iload_n 3, 1) := by decide +kernel
theorem dX5_fillPage_52 : decode cX5_fillPage 52 = .ok (.invokestatic 188, 3) := by decide +kernel
theorem dX5_fillPage_55 : decode cX5_fillPage 55 = .ok (.ifCond .ne 16, 3) := by decide +kernel
theorem dX5_fillPage_58 : decode cX5_fillPage 58 = .ok (.aload_n 0, 1) := by decide +kernel
theorem dX5_fillPage_59 : decode cX5_fillPage 59 = .ok (.dup, 1) := by decide +kernel
theorem dX5_fillPage_60 : decode cX5_fillPage 60 = .ok (.getfield 43, 3) := by decide +kernel
theorem dX5_fillPage_63 : decode cX5_fillPage 63 = .ok (.iconst 1, 1) := by decide +kernel
theorem dX5_fillPage_64 : decode cX5_fillPage 64 = .ok (.iadd, 1) := by decide +kernel
theorem dX5_fillPage_65 : decode cX5_fillPage 65 = .ok (.putfield 43, 3) := by decide +kernel
theorem dX5_fillPage_68 : decode cX5_fillPage 68 = .ok (.goto 66, 3) := by decide +kernel
theorem dX5_fillPage_71 : decode cX5_fillPage 71 = .ok (.aload_n 0, 1) := by decide +kernel
theorem dX5_fillPage_72 : decode cX5_fillPage 72 = .ok (.getfield 21, 3) := by decide +kernel
theorem dX5_fillPage_75 : decode cX5_fillPage 75 = .ok (.getfield 154, 3) := by decide +kernel
theorem dX5_fillPage_78 : decode cX5_fillPage 78 = .ok (.ifCond .ne 10, 3) := by decide +kernel
theorem dX5_fillPage_81 : decode cX5_fillPage 81 = .ok (.aload_n 0, 1) := by decide +kernel
theorem dX5_fillPage_82 : decode cX5_fillPage 82 = .ok (.invokevirtual 192, 3) := by decide +kernel
theorem dX5_fillPage_85 : decode cX5_fillPage 85 = .ok (.goto 21, 3) := by decide +kernel
theorem dX5_fillPage_88 : decode cX5_fillPage 88 = .ok (.aload_n 0, 1) := by decide +kernel
theorem dX5_fillPage_89 : decode cX5_fillPage 89 = .ok (.iload_n 3, 1) := by decide +kernel
theorem dX5_fillPage_90 : decode cX5_fillPage 90 = .ok (.invokevirtual 195, 3) := by decide +kernel
theorem dX5_fillPage_93 : decode cX5_fillPage 93 = .ok (.ifCond .eq 13, 3) := by decide +kernel
theorem dX5_fillPage_96 : decode cX5_fillPage 96 = .ok (.aload_n 0, 1) := by decide +kernel
theorem dX5_fillPage_97 : decode cX5_fillPage 97 = .ok (.iload_n 3, 1) := by decide +kernel
theorem dX5_fillPage_98 : decode cX5_fillPage 98 = .ok (.invokevirtual 198, 3) := by decide +kernel
theorem dX5_fillPage_101 : decode cX5_fillPage 101 = .ok (.ifCond .eq 5, 3) := by decide +kernel
theorem dX5_fillPage_104 : decode cX5_fillPage 104 = .ok (.iconst 1, 1) := by decide +kernel
theorem dX5_fillPage_105 : decode cX5_fillPage 105 = .ok (.ireturn, 1) := by decide +kernel
theorem dX5_fillPage_106 : decode cX5_fillPage 106 = .ok (.aload_n 0, 1) := by decide +kernel
theorem dX5_fillPage_107 : decode cX5_fillPage 107 = .ok (.getfield 21, 3) := by decide +kernel
theorem dX5_fillPage_110 : decode cX5_fillPage 110 = .ok (.getfield 158, 3) := by decide +kernel
theorem dX5_fillPage_113 : decode cX5_fillPage 113 = .ok (.aload_n 0, 1) := by decide +kernel
theorem dX5_fillPage_114 : decode cX5_fillPage 114 = .ok (.getfield 14, 3) := by decide +kernel
theorem dX5_fillPage_117 : decode cX5_fillPage 117 = .ok (.aload_n 0, 1) := by decide +kernel
theorem dX5_fillPage_118 : decode cX5_fillPage 118 = .ok (.getfield 43, 3) := by decide +kernel
theorem dX5_fillPage_121 : decode cX5_fillPage 121 = .ok (.invokevirtual 201, 3) := by decide +kernel
theorem dX5_fillPage_124 : decode cX5_fillPage 124 = .ok (.aload_n 0, 1) := by decide +kernel
theorem dX5_fillPage_125 : decode cX5_fillPage 125 = .ok (.dup, 1) := by decide +kernel
theorem dX5_fillPage_126 : decode cX5_fillPage 126 = .ok (.getfield 43, 3) := by decide +kernel
theorem dX5_fillPage_129 : decode cX5_fillPage 129 = .ok (.iconst 1, 1) := by decide +kernel
theorem dX5_fillPage_130 : decode cX5_fillPage 130 = .ok (.iadd, 1) := by decide +kernel
theorem dX5_fillPage_131 : decode cX5_fillPage 131 = .ok (.putfield 43, 3) := by decide +kernel
theorem dX5_fillPage_134 : decode cX5_fillPage 134 = .ok (.iinc 2 1, 3) := by decide +kernel
theorem dX5_fillPage_137 : decode cX5_fillPage 137 = .ok (.goto (-130), 3) := by decide +kernel
theorem dX5_fillPage_140 : decode cX5_fillPage 140 = .ok (.iconst 0, 1) := by decide +kernel
theorem dX5_fillPage_141 : decode cX5_fillPage 141 = .ok (.ireturn, 1) := by decide +kernel
set_option maxRecDepth 20000 in
theorem ggX5_beginPage_X0_at : GoodIn wsX5_beginPage wsX0_at := goodIn_r _ [18, 19, 20, 93, 94] (by decide +kernel) (by decide +kernel)
set_option maxRecDepth 20000 in
theorem gX5_beginPage_X0_at : GoodIn wsX5_beginPage (wsV RX5 138 RX0 yX0_at wsX0_at) := goodIn_app (goodIn_of _ (by decide +kernel)) ggX5_beginPage_X0_at
set_option maxRecDepth 20000 in
theorem ggX5_beginPage_X0_makeGlue : GoodIn wsX5_beginPage wsX0_makeGlue := goodIn_r _ [24, 25, 26, 27, 17, 28, 29, 30, 31, 32, 19, 20, 93, 94] (by decide +kernel) (by decide +kernel)
set_option maxRecDepth 20000 in
theorem gX5_beginPage_X0_makeGlue : GoodIn wsX5_beginPage (wsV RX5 81 RX0 yX0_makeGlue wsX0_makeGlue) := goodIn_app (goodIn_of _ (by decide +kernel)) ggX5_beginPage_X0_makeGlue
set_option maxRecDepth 20000 in
theorem ggX5_beginPage_X2_begin : GoodIn wsX5_beginPage wsX2_begin := goodIn_r _ [37, 38, 39, 40, 41, 42, 43, 44, 45, 46, 47, 48, 49, 50, 51, 52, 53, 54, 55, 56, 87, 88, 89, 90, 91, 92, 95, 96, 97, 98, 99, 100] (by decide +kernel) (by decide +kernel)
set_option maxRecDepth 20000 in
theorem gX5_beginPage_X2_begin : GoodIn wsX5_beginPage (wsV RX5 210 RX2 yX2_begin wsX2_begin) := goodIn_app (goodIn_of _ (by decide +kernel)) ggX5_beginPage_X2_begin
set_option maxRecDepth 20000 in
theorem ggX5_beginPage_X4_take : GoodIn wsX5_beginPage wsX4_take := goodIn_r _ [60, 50, 49, 61, 15, 16, 17, 18, 19, 20, 62, 63, 64, 45, 65, 52, 66, 67, 6, 68, 51, 69, 70, 71, 72, 73, 74, 75, 48, 47, 95, 96, 97, 98, 99, 100, 93, 94] (by decide +kernel) (by decide +kernel)
set_option maxRecDepth 20000 in
theorem gX5_beginPage_X4_take : GoodIn wsX5_beginPage (wsV RX5 201 RX4 yX4_take wsX4_take) := goodIn_app (goodIn_of _ (by decide +kernel)) ggX5_beginPage_X4_take
theorem dX5_beginPage_0 : decode cX5_beginPage 0 = .ok (.aload_n 0, 1) := by decide +kernel
theorem dX5_beginPage_1 : decode cX5_beginPage 1 = .ok (.getfield 43, 3) := by decide +kernel
theorem dX5_beginPage_4 : decode cX5_beginPage 4 = .ok (.iconst 1, 1) := by decide +kernel
theorem dX5_beginPage_5 : decode cX5_beginPage 5 = .ok (.isub, 1) := by decide +kernel
theorem dX5_beginPage_6 : decode cX5_beginPage 6 = .ok (.istore_n 1, 1) := by decide +kernel
theorem dX5_beginPage_7 : decode cX5_beginPage 7 = .ok (.iconst 0, 1) := by decide +kernel
theorem dX5_beginPage_8 : decode cX5_beginPage 8 = .ok (.aload_n 0, 1) := by decide +kernel
theorem dX5_beginPage_9 : decode cX5_beginPage 9 = .ok (.getfield 61, 3) := by decide +kernel
theorem dX5_beginPage_12 : decode cX5_beginPage 12 = .ok (.aload_n 0, 1) := by decide +kernel
theorem dX5_beginPage_13 : decode cX5_beginPage 13 = .ok (.getfield 14, 3) := by decide +kernel
theorem dX5_beginPage_16 : decode cX5_beginPage 16 = .ok (.aload_n 0, 1) := by decide +kernel
theorem dX5_beginPage_17 : decode cX5_beginPage 17 = .ok (.getfield 43, 3) := by decide +kernel
theorem dX5_beginPage_20 : decode cX5_beginPage 20 = .ok (.iconst 2, 1) := by decide +kernel
theorem dX5_beginPage_21 : decode cX5_beginPage 21 = .ok (.invokevirtual 138, 3) := by decide +kernel
theorem dX5_beginPage_24 : decode cX5_beginPage 24 = .ok (.isub, 1) := by decide +kernel
theorem dX5_beginPage_25 : decode cX5_beginPage 25 = .ok (.invokestatic 205, 3) := by decide +kernel
theorem dX5_beginPage_28 : decode cX5_beginPage 28 = .ok (.istore_n 2, 1) := by decide +kernel
theorem dX5_beginPage_29 : decode cX5_beginPage 29 = .ok (.aload_n 0, 1) := by decide +kernel
theorem dX5_beginPage_30 : decode cX5_beginPage 30 = .ok (.getfield 14, 3) := by decide +kernel
theorem dX5_beginPage_33 : decode cX5_beginPage 33 = .ok (.iload_n 1, 1) := by decide +kernel
theorem dX5_beginPage_34 : decode cX5_beginPage 34 = .ok (.iload_n 2, 1) := by decide +kernel
theorem dX5_beginPage_35 : decode cX5_beginPage 35 = .ok (.aload_n 0, 1) := by decide +kernel
theorem dX5_beginPage_36 : decode cX5_beginPage 36 = .ok (.getfield 64, 3) := by decide +kernel
theorem dX5_beginPage_39 : decode cX5_beginPage 39 = .ok (.aload_n 0, 1) := by decide +kernel
theorem dX5_beginPage_40 : decode cX5_beginPage 40 = .ok (.getfield 67, 3) := by decide +kernel
theorem dX5_beginPage_43 : decode cX5_beginPage 43 = .ok (.aload_n 0, 1) := by decide +kernel
theorem dX5_beginPage_44 : decode cX5_beginPage 44 = .ok (.getfield 70, 3) := by decide +kernel
theorem dX5_beginPage_47 : decode cX5_beginPage 47 = .ok (.invokevirtual 81, 3) := by decide +kernel
theorem dX5_beginPage_50 : decode cX5_beginPage 50 = .ok (.aload_n 0, 1) := by decide +kernel
theorem dX5_beginPage_51 : decode cX5_beginPage 51 = .ok (.getfield 21, 3) := by decide +kernel
theorem dX5_beginPage_54 : decode cX5_beginPage 54 = .ok (.iload_n 1, 1) := by decide +kernel
theorem dX5_beginPage_55 : decode cX5_beginPage 55 = .ok (.aload_n 0, 1) := by decide +kernel
theorem dX5_beginPage_56 : decode cX5_beginPage 56 = .ok (.getfield 51, 3) := by decide +kernel
theorem dX5_beginPage_59 : decode cX5_beginPage 59 = .ok (.aload_n 0, 1) := by decide +kernel
theorem dX5_beginPage_60 : decode cX5_beginPage 60 = .ok (.getfield 54, 3) := by decide +kernel
theorem dX5_beginPage_63 : decode cX5_beginPage 63 = .ok (.invokevirtual 210, 3) := by decide +kernel
theorem dX5_beginPage_66 : decode cX5_beginPage 66 = .ok (.aload_n 0, 1) := by decide +kernel
theorem dX5_beginPage_67 : decode cX5_beginPage 67 = .ok (.getfield 21, 3) := by decide +kernel
theorem dX5_beginPage_70 : decode cX5_beginPage 70 = .ok (.getfield 158, 3) := by decide +kernel
theorem dX5_beginPage_73 : decode cX5_beginPage 73 = .ok (.aload_n 0, 1) := by decide +kernel
theorem dX5_beginPage_74 : decode cX5_beginPage 74 = .ok (.getfield 14, 3) := by decide +kernel
theorem dX5_beginPage_77 : decode cX5_beginPage 77 = .ok (.iload_n 1, 1) := by decide +kernel
theorem dX5_beginPage_78 : decode cX5_beginPage 78 = .ok (.invokevirtual 201, 3) := by decide +kernel
theorem dX5_beginPage_81 : decode cX5_beginPage 81 = .ok (.return_, 1) := by decide +kernel
set_option maxRecDepth 20000 in
theorem ggX5_isBreak_X0_at : GoodIn wsX5_isBreak wsX0_at := goodIn_r _ [7, 8, 9, 33, 34] (by decide +kernel) (by decide +kernel)
set_option maxRecDepth 20000 in
theorem gX5_isBreak_X0_at : GoodIn wsX5_isBreak (wsV RX5 138 RX0 yX0_at wsX0_at) := goodIn_app (goodIn_of _ (by decide +kernel)) ggX5_isBreak_X0_at
set_option maxRecDepth 20000 in
theorem ggX5_isBreak_X5_isSolid : GoodIn wsX5_isBreak wsX5_isSolid := goodIn_r _ [13] (by decide +kernel) (by decide +kernel)
set_option maxRecDepth 20000 in
theorem gX5_isBreak_X5_isSolid : GoodIn wsX5_isBreak (va_wsS RX5 188 yX5_isSolid wsX5_isSolid) := goodIn_app (goodIn_of _ (by decide +kernel)) ggX5_isBreak_X5_isSolid
set_option maxRecDepth 20000 in
theorem ggX5_isBreak_X5_toCome : GoodIn wsX5_isBreak wsX5_toCome := goodIn_r _ [17, 1, 2, 18, 19, 20, 6, 21, 8, 22, 23, 24, 25, 26, 27, 28, 29, 30, 31, 32, 33, 34] (by decide +kernel) (by decide +kernel)
set_option maxRecDepth 20000 in
theorem gX5_isBreak_X5_toCome : GoodIn wsX5_isBreak (wsV RX5 145 RX5 yX5_toCome wsX5_toCome) := goodIn_app (goodIn_of _ (by decide +kernel)) ggX5_isBreak_X5_toCome
theorem dX5_isBreak_0 : decode cX5_isBreak 0 = .ok (.iload_n 1, 1) := by decide +kernel
theorem dX5_isBreak_1 : decode cX5_isBreak 1 = .ok (.tableswitch 101 5 7 #[27, 45, 77], 27) := by decide +kernel
theorem dX5_isBreak_28 : decode cX5_isBreak 28 = .ok (.aload_n 0, 1) := by decide +kernel
theorem dX5_isBreak_29 : decode cX5_isBreak 29 = .ok (.getfield 14, 3) := by decide +kernel
theorem dX5_isBreak_32 : decode cX5_isBreak 32 = .ok (.aload_n 0, 1) := by decide +kernel
theorem dX5_isBreak_33 : decode cX5_isBreak 33 = .ok (.getfield 43, 3) := by decide +kernel
theorem dX5_isBreak_36 : decode cX5_isBreak 36 = .ok (.iconst 1, 1) := by decide +kernel
theorem dX5_isBreak_37 : decode cX5_isBreak 37 = .ok (.isub, 1) := by decide +kernel
theorem dX5_isBreak_38 : decode cX5_isBreak 38 = .ok (.iconst 0, 1) := by decide +kernel
theorem dX5_isBreak_39 : decode cX5_isBreak 39 = .ok (.invokevirtual 138, 3) := by decide +kernel
theorem dX5_isBreak_42 : decode cX5_isBreak 42 = .ok (.invokestatic 188, 3) := by decide +kernel
theorem dX5_isBreak_45 : decode cX5_isBreak 45 = .ok (.ireturn, 1) := by decide +kernel
theorem dX5_isBreak_46 : decode cX5_isBreak 46 = .ok (.aload_n 0, 1) := by decide +kernel
theorem dX5_isBreak_47 : decode cX5_isBreak 47 = .ok (.invokevirtual 145, 3) := by decide +kernel
theorem dX5_isBreak_50 : decode cX5_isBreak 50 = .ok (.iconst 1, 1) := by decide +kernel
theorem dX5_isBreak_51 : decode cX5_isBreak 51 = .ok (.if_icmp .le 25, 3) := by decide +kernel
theorem dX5_isBreak_54 : decode cX5_isBreak 54 = .ok (.aload_n 0, 1) := by decide +kernel
theorem dX5_isBreak_55 : decode cX5_isBreak 55 = .ok (.getfield 14, 3) := by decide +kernel
theorem dX5_isBreak_58 : decode cX5_isBreak 58 = .ok (.aload_n 0, 1) := by decide +kernel
theorem dX5_isBreak_59 : decode cX5_isBreak 59 = .ok (.getfield 43, 3) := by decide +kernel
theorem dX5_isBreak_62 : decode cX5_isBreak 62 = .ok (.iconst 1, 1) := by decide +kernel
theorem dX5_isBreak_63 : decode cX5_isBreak 63 = .ok (.iadd, 1) := by decide +kernel
theorem dX5_isBreak_64 : decode cX5_isBreak 64 = .ok (.iconst 0, 1) := by decide +kernel
theorem dX5_isBreak_65 : decode cX5_isBreak 65 = .ok (.invokevirtual 138, 3) := by decide +kernel
theorem dX5_isBreak_68 : decode cX5_isBreak 68 = .ok (.iconst 5, 1) := by decide +kernel
theorem dX5_isBreak_69 : decode cX5_isBreak 69 = .ok (.if_icmp .ne 7, 3) := by decide +kernel
theorem dX5_isBreak_72 : decode cX5_isBreak 72 = .ok (.iconst 1, 1) := by decide +kernel
theorem dX5_isBreak_73 : decode cX5_isBreak 73 = .ok (.goto 4, 3) := by decide +kernel
theorem dX5_isBreak_76 : decode cX5_isBreak 76 = .ok (.iconst 0, 1) := by decide +kernel
theorem dX5_isBreak_77 : decode cX5_isBreak 77 = .ok (.ireturn, 1) := by decide +kernel
theorem dX5_isBreak_78 : decode cX5_isBreak 78 = .ok (.aload_n 0, 1) := by decide +kernel
theorem dX5_isBreak_79 : decode cX5_isBreak 79 = .ok (.getfield 14, 3) := by decide +kernel
theorem dX5_isBreak_82 : decode cX5_isBreak 82 = .ok (.aload_n 0, 1) := by decide +kernel
theorem dX5_isBreak_83 : decode cX5_isBreak 83 = .ok (.getfield 43, 3) := by decide +kernel
theorem dX5_isBreak_86 : decode cX5_isBreak 86 = .ok (.iconst 1, 1) := by decide +kernel
theorem dX5_isBreak_87 : decode cX5_isBreak 87 = .ok (.invokevirtual 138, 3) := by decide +kernel
theorem dX5_isBreak_90 : decode cX5_isBreak 90 = .ok (.sipush 10000, 3) := by decide +kernel
theorem dX5_isBreak_93 : decode cX5_isBreak 93 = .ok (.if_icmp .ge 7, 3) := by decide +kernel
theorem dX5_isBreak_96 : decode cX5_isBreak 96 = .ok (.iconst 1, 1) := by decide +kernel
theorem dX5_isBreak_97 : decode cX5_isBreak 97 = .ok (.goto 4, 3) := by decide +kernel
theorem dX5_isBreak_100 : decode cX5_isBreak 100 = .ok (.iconst 0, 1) := by decide +kernel
theorem dX5_isBreak_101 : decode cX5_isBreak 101 = .ok (.ireturn, 1) := by decide +kernel
theorem dX5_isBreak_102 : decode cX5_isBreak 102 = .ok (.iconst 0, 1) := by decide +kernel
theorem dX5_isBreak_103 : decode cX5_isBreak 103 = .ok (.ireturn, 1) := by decide +kernel
set_option maxRecDepth 20000 in
theorem ggX5_endsAtBreak_X0_at : GoodIn wsX5_endsAtBreak wsX0_at := goodIn_r _ [8, 9, 10, 73, 74] (by decide +kernel) (by decide +kernel)
set_option maxRecDepth 20000 in
theorem gX5_endsAtBreak_X0_at : GoodIn wsX5_endsAtBreak (wsV RX5 138 RX0 yX0_at wsX0_at) := goodIn_app (goodIn_of _ (by decide +kernel)) ggX5_endsAtBreak_X0_at
set_option maxRecDepth 20000 in
theorem ggX5_endsAtBreak_X5_onPage : GoodIn wsX5_endsAtBreak wsX5_onPage := goodIn_r _ [15, 3, 2, 62, 63, 64, 65, 66, 67, 68, 69, 70, 71, 72, 75, 76, 77, 78, 79, 80] (by decide +kernel) (by decide +kernel)
set_option maxRecDepth 20000 in
theorem gX5_endsAtBreak_X5_onPage : GoodIn wsX5_endsAtBreak (wsV RX5 148 RX5 yX5_onPage wsX5_onPage) := goodIn_app (goodIn_of _ (by decide +kernel)) ggX5_endsAtBreak_X5_onPage
set_option maxRecDepth 20000 in
theorem ggX5_endsAtBreak_X2_weigh : GoodIn wsX5_endsAtBreak wsX2_weigh := goodIn_r _ [20, 21, 22, 23, 24, 25, 26, 19, 27, 28, 29, 30, 31, 32, 33, 34, 35, 36, 37, 14, 38, 39, 40, 41, 42, 43, 44, 45, 46, 47, 48, 49, 50, 51, 52, 53, 54, 55, 56, 57, 58, 59, 60, 61, 75, 76, 77, 78, 79, 80, 81, 82, 83, 84, 85, 86] (by decide +kernel) (by decide +kernel)
set_option maxRecDepth 20000 in
theorem gX5_endsAtBreak_X2_weigh : GoodIn wsX5_endsAtBreak (wsV RX5 213 RX2 yX2_weigh wsX2_weigh) := goodIn_app (goodIn_of _ (by decide +kernel)) ggX5_endsAtBreak_X2_weigh
theorem dX5_endsAtBreak_0 : decode cX5_endsAtBreak 0 = .ok (.iload_n 1, 1) := by decide +kernel
theorem dX5_endsAtBreak_1 : decode cX5_endsAtBreak 1 = .ok (.bipush 7, 2) := by decide +kernel
theorem dX5_endsAtBreak_3 : decode cX5_endsAtBreak 3 = .ok (.if_icmp .ne 18, 3) := by decide +kernel
theorem dX5_endsAtBreak_6 : decode cX5_endsAtBreak 6 = .ok (.aload_n 0, 1) := by decide +kernel
theorem dX5_endsAtBreak_7 : decode cX5_endsAtBreak 7 = .ok (.getfield 14, 3) := by decide +kernel
theorem dX5_endsAtBreak_10 : decode cX5_endsAtBreak 10 = .ok (.aload_n 0, 1) := by decide +kernel
theorem dX5_endsAtBreak_11 : decode cX5_endsAtBreak 11 = .ok (.getfield 43, 3) := by decide +kernel
theorem dX5_endsAtBreak_14 : decode cX5_endsAtBreak 14 = .ok (.iconst 1, 1) := by decide +kernel
theorem dX5_endsAtBreak_15 : decode cX5_endsAtBreak 15 = .ok (.invokevirtual 138, 3) := by decide +kernel
theorem dX5_endsAtBreak_18 : decode cX5_endsAtBreak 18 = .ok (.goto 4, 3) := by decide +kernel
theorem dX5_endsAtBreak_21 : decode cX5_endsAtBreak 21 = .ok (.iconst 0, 1) := by decide +kernel
theorem dX5_endsAtBreak_22 : decode cX5_endsAtBreak 22 = .ok (.istore_n 2, 1) := by decide +kernel
theorem dX5_endsAtBreak_23 : decode cX5_endsAtBreak 23 = .ok (.aload_n 0, 1) := by decide +kernel
theorem dX5_endsAtBreak_24 : decode cX5_endsAtBreak 24 = .ok (.getfield 21, 3) := by decide +kernel
theorem dX5_endsAtBreak_27 : decode cX5_endsAtBreak 27 = .ok (.iload_n 2, 1) := by decide +kernel
theorem dX5_endsAtBreak_28 : decode cX5_endsAtBreak 28 = .ok (.aload_n 0, 1) := by decide +kernel
theorem dX5_endsAtBreak_29 : decode cX5_endsAtBreak 29 = .ok (.invokevirtual 148, 3) := by decide +kernel
theorem dX5_endsAtBreak_32 : decode cX5_endsAtBreak 32 = .ok (.invokevirtual 213, 3) := by decide +kernel
theorem dX5_endsAtBreak_35 : decode cX5_endsAtBreak 35 = .ok (.ireturn, 1) := by decide +kernel
set_option maxRecDepth 20000 in
theorem ggX5_endPage_X2_hasBest : GoodIn wsX5_endPage wsX2_hasBest := goodIn_r _ [10, 11, 193, 194, 195, 196, 197, 198] (by decide +kernel) (by decide +kernel)
set_option maxRecDepth 20000 in
theorem gX5_endPage_X2_hasBest : GoodIn wsX5_endPage (wsV RX5 151 RX2 yX2_hasBest wsX2_hasBest) := goodIn_app (goodIn_of _ (by decide +kernel)) ggX5_endPage_X2_hasBest
set_option maxRecDepth 20000 in
theorem ggX5_endPage_X4_clear : GoodIn wsX5_endPage wsX4_clear := goodIn_r _ [16, 17, 18, 19, 20, 21, 22, 23, 24, 25, 26, 199, 200, 201, 202, 203, 204] (by decide +kernel) (by decide +kernel)
set_option maxRecDepth 20000 in
theorem gX5_endPage_X4_clear : GoodIn wsX5_endPage (wsV RX5 223 RX4 yX4_clear wsX4_clear) := goodIn_app (goodIn_of _ (by decide +kernel)) ggX5_endPage_X4_clear
set_option maxRecDepth 20000 in
theorem ggX5_endPage_X4_take : GoodIn wsX5_endPage wsX4_take := goodIn_r _ [30, 20, 19, 31, 32, 33, 34, 35, 36, 37, 38, 39, 40, 15, 41, 22, 42, 43, 44, 45, 21, 46, 47, 48, 49, 50, 51, 52, 18, 17, 199, 200, 201, 202, 203, 204, 205, 206] (by decide +kernel) (by decide +kernel)
set_option maxRecDepth 20000 in
theorem gX5_endPage_X4_take : GoodIn wsX5_endPage (wsV RX5 201 RX4 yX4_take wsX4_take) := goodIn_app (goodIn_of _ (by decide +kernel)) ggX5_endPage_X4_take
set_option maxRecDepth 20000 in
theorem ggX5_endPage_X4_areSizes : GoodIn wsX5_endPage wsX4_areSizes := goodIn_r _ [56, 17, 18, 21, 57, 58, 59, 60, 61, 62, 63, 64, 15, 65, 19, 20, 199, 200, 201, 202, 203, 204] (by decide +kernel) (by decide +kernel)
set_option maxRecDepth 20000 in
theorem gX5_endPage_X4_areSizes : GoodIn wsX5_endPage (wsV RX5 226 RX4 yX4_areSizes wsX4_areSizes) := goodIn_app (goodIn_of _ (by decide +kernel)) ggX5_endPage_X4_areSizes
set_option maxRecDepth 20000 in
theorem ggX5_endPage_X3_put : GoodIn wsX5_endPage wsX3_put := goodIn_r _ [70, 71, 72, 73, 74, 44, 75, 76, 77, 78, 79, 80, 81, 82, 83, 84, 85, 86, 87, 88, 89, 90, 91, 34, 92, 93, 94, 95, 96, 97, 37, 98, 99, 100, 101, 102, 103, 104, 105, 106, 107, 108, 36, 109, 110, 111, 112, 113, 114, 115, 116, 117, 118, 119, 120, 121, 122, 25, 123, 124, 125, 126, 127, 128, 129, 130, 131, 132, 63, 64, 15, 65, 19, 20, 133, 134, 135, 136, 137, 47, 48, 138, 139, 140, 141, 17, 142, 143, 144, 145, 146, 147, 148, 149, 150, 151, 152, 153, 154, 32, 33, 35, 155, 156, 157, 158, 159, 58, 160, 161, 162, 163, 164, 165, 166, 167, 168, 169, 170, 43, 45, 171, 172, 173, 174, 207, 208, 209, 210, 211, 212, 213, 214, 205, 206, 199, 200, 201, 202, 203, 204] (by decide +kernel) (by decide +kernel)
set_option maxRecDepth 20000 in
theorem gX5_endPage_X3_put : GoodIn wsX5_endPage (wsV RX5 232 RX3 yX3_put wsX3_put) := goodIn_app (goodIn_of _ (by decide +kernel)) ggX5_endPage_X3_put
set_option maxRecDepth 20000 in
theorem ggX5_endPage_X2_forget : GoodIn wsX5_endPage wsX2_forget := goodIn_r _ [178, 179, 180, 11, 181, 193, 194, 195, 196, 197, 198] (by decide +kernel) (by decide +kernel)
set_option maxRecDepth 20000 in
theorem gX5_endPage_X2_forget : GoodIn wsX5_endPage (wsV RX5 236 RX2 yX2_forget wsX2_forget) := goodIn_app (goodIn_of _ (by decide +kernel)) ggX5_endPage_X2_forget
theorem dX5_endPage_0 : decode cX5_endPage 0 = .ok (.aload_n 0, 1) := by decide +kernel
theorem dX5_endPage_1 : decode cX5_endPage 1 = .ok (.getfield 21, 3) := by decide +kernel
theorem dX5_endPage_4 : decode cX5_endPage 4 = .ok (.getfield 185, 3) := by decide +kernel
theorem dX5_endPage_7 : decode cX5_endPage 7 = .ok (.istore_n 1, 1) := by decide +kernel
theorem dX5_endPage_8 : decode cX5_endPage 8 = .ok (.aload_n 0, 1) := by decide +kernel
theorem dX5_endPage_9 : decode cX5_endPage 9 = .ok (.getfield 21, 3) := by decide +kernel
theorem dX5_endPage_12 : decode cX5_endPage 12 = .ok (.invokevirtual 151, 3) := by decide +kernel
theorem dX5_endPage_15 : decode cX5_endPage 15 = .ok (.ifCond .eq 15, 3) := by decide +kernel
theorem dX5_endPage_18 : decode cX5_endPage 18 = .ok (.iload_n 1, 1) := by decide +kernel
theorem dX5_endPage_19 : decode cX5_endPage 19 = .ok (.aload_n 0, 1) := by decide +kernel
theorem dX5_endPage_20 : decode cX5_endPage 20 = .ok (.getfield 21, 3) := by decide +kernel
theorem dX5_endPage_23 : decode cX5_endPage 23 = .ok (.getfield 217, 3) := by decide +kernel
theorem dX5_endPage_26 : decode cX5_endPage 26 = .ok (.iadd, 1) := by decide +kernel
theorem dX5_endPage_27 : decode cX5_endPage 27 = .ok (.goto 7, 3) := by decide +kernel
theorem dX5_endPage_30 : decode cX5_endPage 30 = .ok (.aload_n 0, 1) := by decide +kernel
theorem dX5_endPage_31 : decode cX5_endPage 31 = .ok (.getfield 43, 3) := by decide +kernel
theorem dX5_endPage_34 : decode cX5_endPage 34 = .ok (.istore_n 2, 1) := by decide +kernel
theorem dX5_endPage_35 : decode cX5_endPage 35 = .ok (.aload_n 0, 1) := by decide +kernel
theorem dX5_endPage_36 : decode cX5_endPage 36 = .ok (.getfield 35, 3) := by decide +kernel
theorem dX5_endPage_39 : decode cX5_endPage 39 = .ok (.aload_n 0, 1) := by decide +kernel
theorem dX5_endPage_40 : decode cX5_endPage 40 = .ok (.getfield 21, 3) := by decide +kernel
theorem dX5_endPage_43 : decode cX5_endPage 43 = .ok (.getfield 158, 3) := by decide +kernel
theorem dX5_endPage_46 : decode cX5_endPage 46 = .ok (.getfield 220, 3) := by decide +kernel
theorem dX5_endPage_49 : decode cX5_endPage 49 = .ok (.invokevirtual 223, 3) := by decide +kernel
theorem dX5_endPage_52 : decode cX5_endPage 52 = .ok (.iload_n 1, 1) := by decide +kernel
theorem dX5_endPage_53 : decode cX5_endPage 53 = .ok (.istore_n 3, 1) := by decide +kernel
theorem dX5_endPage_54 : decode cX5_endPage 54 = .ok (.iload_n 3, 1) := by decide +kernel
theorem dX5_endPage_55 : decode cX5_endPage 55 = .ok (.iload_n 2, 1) := by decide +kernel
theorem dX5_endPage_56 : decode cX5_endPage 56 = .ok (.if_icmp .ge 21, 3) := by decide +kernel
theorem dX5_endPage_59 : decode cX5_endPage 59 = .ok (.aload_n 0, 1) := by decide +kernel
theorem dX5_endPage_60 : decode cX5_endPage 60 = .ok (.getfield 35, 3) := by decide +kernel
theorem dX5_endPage_63 : decode cX5_endPage 63 = .ok (.aload_n 0, 1) := by decide +kernel
theorem dX5_endPage_64 : decode cX5_endPage 64 = .ok (.getfield 14, 3) := by decide +kernel
theorem dX5_endPage_67 : decode cX5_endPage 67 = .ok (.iload_n 3, 1) := by decide +kernel
theorem dX5_endPage_68 : decode cX5_endPage 68 = .ok (.invokevirtual 201, 3) := by decide +kernel
theorem dX5_endPage_71 : decode cX5_endPage 71 = .ok (.iinc 3 1, 3) := by decide +kernel
theorem dX5_endPage_74 : decode cX5_endPage 74 = .ok (.goto (-20), 3) := by decide +kernel
theorem dX5_endPage_77 : decode cX5_endPage 77 = .ok (.aload_n 0, 1) := by decide +kernel
theorem dX5_endPage_78 : decode cX5_endPage 78 = .ok (.getfield 35, 3) := by decide +kernel
theorem dX5_endPage_81 : decode cX5_endPage 81 = .ok (.invokevirtual 226, 3) := by decide +kernel
theorem dX5_endPage_84 : decode cX5_endPage 84 = .ok (.ifCond .ne 5, 3) := by decide +kernel
theorem dX5_endPage_87 : decode cX5_endPage 87 = .ok (.iconst 0, 1) := by decide +kernel
theorem dX5_endPage_88 : decode cX5_endPage 88 = .ok (.ireturn, 1) := by decide +kernel
theorem dX5_endPage_89 : decode cX5_endPage 89 = .ok (.aload_n 0, 1) := by decide +kernel
theorem dX5_endPage_90 : decode cX5_endPage 90 = .ok (.getfield 28, 3) := by decide +kernel
theorem dX5_endPage_93 : decode cX5_endPage 93 = .ok (.aload_n 0, 1) := by decide +kernel
theorem dX5_endPage_94 : decode cX5_endPage 94 = .ok (.getfield 14, 3) := by decide +kernel
theorem dX5_endPage_97 : decode cX5_endPage 97 = .ok (.iload_n 1, 1) := by decide +kernel
theorem dX5_endPage_98 : decode cX5_endPage 98 = .ok (.iload_n 2, 1) := by decide +kernel
theorem dX5_endPage_99 : decode cX5_endPage 99 = .ok (.aload_n 0, 1) := by decide +kernel
theorem dX5_endPage_100 : decode cX5_endPage 100 = .ok (.getfield 21, 3) := by decide +kernel
theorem dX5_endPage_103 : decode cX5_endPage 103 = .ok (.getfield 229, 3) := by decide +kernel
theorem dX5_endPage_106 : decode cX5_endPage 106 = .ok (.aload_n 0, 1) := by decide +kernel
theorem dX5_endPage_107 : decode cX5_endPage 107 = .ok (.getfield 35, 3) := by decide +kernel
theorem dX5_endPage_110 : decode cX5_endPage 110 = .ok (.invokevirtual 232, 3) := by decide +kernel
theorem dX5_endPage_113 : decode cX5_endPage 113 = .ok (.aload_n 0, 1) := by decide +kernel
theorem dX5_endPage_114 : decode cX5_endPage 114 = .ok (.iload_n 2, 1) := by decide +kernel
theorem dX5_endPage_115 : decode cX5_endPage 115 = .ok (.putfield 43, 3) := by decide +kernel
theorem dX5_endPage_118 : decode cX5_endPage 118 = .ok (.aload_n 0, 1) := by decide +kernel
theorem dX5_endPage_119 : decode cX5_endPage 119 = .ok (.getfield 21, 3) := by decide +kernel
theorem dX5_endPage_122 : decode cX5_endPage 122 = .ok (.invokevirtual 236, 3) := by decide +kernel
theorem dX5_endPage_125 : decode cX5_endPage 125 = .ok (.iconst 1, 1) := by decide +kernel
theorem dX5_endPage_126 : decode cX5_endPage 126 = .ok (.ireturn, 1) := by decide +kernel
set_option maxRecDepth 20000 in
theorem ggX5_loseAll_X3_clear : GoodIn wsX5_loseAll wsX3_clear := goodIn_r _ [9, 10, 69, 70, 71, 72] (by decide +kernel) (by decide +kernel)
set_option maxRecDepth 20000 in
theorem gX5_loseAll_X3_clear : GoodIn wsX5_loseAll (wsV RX5 239 RX3 yX3_clear wsX3_clear) := goodIn_app (goodIn_of _ (by decide +kernel)) ggX5_loseAll_X3_clear
set_option maxRecDepth 20000 in
theorem ggX5_loseAll_X2_forget : GoodIn wsX5_loseAll wsX2_forget := goodIn_r _ [15, 16, 17, 18, 19, 73, 74, 75, 76, 77, 78] (by decide +kernel) (by decide +kernel)
set_option maxRecDepth 20000 in
theorem gX5_loseAll_X2_forget : GoodIn wsX5_loseAll (wsV RX5 236 RX2 yX2_forget wsX2_forget) := goodIn_app (goodIn_of _ (by decide +kernel)) ggX5_loseAll_X2_forget
set_option maxRecDepth 20000 in
theorem ggX5_loseAll_X0_clear : GoodIn wsX5_loseAll wsX0_clear := goodIn_r _ [24, 25, 79, 80] (by decide +kernel) (by decide +kernel)
set_option maxRecDepth 20000 in
theorem gX5_loseAll_X0_clear : GoodIn wsX5_loseAll (wsV RX5 241 RX0 yX0_clear wsX0_clear) := goodIn_app (goodIn_of _ (by decide +kernel)) ggX5_loseAll_X0_clear
set_option maxRecDepth 20000 in
theorem ggX5_loseAll_X0_append : GoodIn wsX5_loseAll wsX0_append := goodIn_r _ [29, 25, 30, 31, 32, 33, 23, 34, 35, 36, 37, 38, 39, 40, 41, 42, 43, 44, 45, 46, 47, 48, 49, 50, 51, 52, 53, 54, 55, 56, 57, 79, 80] (by decide +kernel) (by decide +kernel)
set_option maxRecDepth 20000 in
theorem gX5_loseAll_X0_append : GoodIn wsX5_loseAll (wsV RX5 39 RX0 yX0_append wsX0_append) := goodIn_app (goodIn_of _ (by decide +kernel)) ggX5_loseAll_X0_append
theorem dX5_loseAll_0 : decode cX5_loseAll 0 = .ok (.aload_n 0, 1) := by decide +kernel
theorem dX5_loseAll_1 : decode cX5_loseAll 1 = .ok (.getfield 28, 3) := by decide +kernel
theorem dX5_loseAll_4 : decode cX5_loseAll 4 = .ok (.invokevirtual 239, 3) := by decide +kernel
theorem dX5_loseAll_7 : decode cX5_loseAll 7 = .ok (.aload_n 0, 1) := by decide +kernel
theorem dX5_loseAll_8 : decode cX5_loseAll 8 = .ok (.getfield 21, 3) := by decide +kernel
theorem dX5_loseAll_11 : decode cX5_loseAll 11 = .ok (.invokevirtual 236, 3) := by decide +kernel
theorem dX5_loseAll_14 : decode cX5_loseAll 14 = .ok (.aload_n 0, 1) := by decide +kernel
theorem dX5_loseAll_15 : decode cX5_loseAll 15 = .ok (.getfield 14, 3) := by decide +kernel
theorem dX5_loseAll_18 : decode cX5_loseAll 18 = .ok (.invokevirtual 241, 3) := by decide +kernel
theorem dX5_loseAll_21 : decode cX5_loseAll 21 = .ok (.aload_n 0, 1) := by decide +kernel
theorem dX5_loseAll_22 : decode cX5_loseAll 22 = .ok (.getfield 14, 3) := by decide +kernel
theorem dX5_loseAll_25 : decode cX5_loseAll 25 = .ok (.invokevirtual 39, 3) := by decide +kernel
theorem dX5_loseAll_28 : decode cX5_loseAll 28 = .ok (.pop, 1) := by decide +kernel
theorem dX5_loseAll_29 : decode cX5_loseAll 29 = .ok (.aload_n 0, 1) := by decide +kernel
theorem dX5_loseAll_30 : decode cX5_loseAll 30 = .ok (.iconst 1, 1) := by decide +kernel
theorem dX5_loseAll_31 : decode cX5_loseAll 31 = .ok (.putfield 43, 3) := by decide +kernel
theorem dX5_loseAll_34 : decode cX5_loseAll 34 = .ok (.return_, 1) := by decide +kernel
set_option maxRecDepth 20000 in
theorem ggX5_dropUsed_X0_dropFirst : GoodIn wsX5_dropUsed wsX0_dropFirst := goodIn_r _ [8, 9, 10, 11, 12, 13, 14, 32, 33] (by decide +kernel) (by decide +kernel)
set_option maxRecDepth 20000 in
theorem gX5_dropUsed_X0_dropFirst : GoodIn wsX5_dropUsed (wsV RX5 242 RX0 yX0_dropFirst wsX0_dropFirst) := goodIn_app (goodIn_of _ (by decide +kernel)) ggX5_dropUsed_X0_dropFirst
theorem dX5_dropUsed_0 : decode cX5_dropUsed 0 = .ok (.aload_n 0, 1) := by decide +kernel
theorem dX5_dropUsed_1 : decode cX5_dropUsed 1 = .ok (.getfield 21, 3) := by decide +kernel
theorem dX5_dropUsed_4 : decode cX5_dropUsed 4 = .ok (.getfield 154, 3) := by decide +kernel
theorem dX5_dropUsed_7 : decode cX5_dropUsed 7 = .ok (.ifCond .eq 13, 3) := by decide +kernel
theorem dX5_dropUsed_10 : decode cX5_dropUsed 10 = .ok (.aload_n 0, 1) := by decide +kernel
theorem dX5_dropUsed_11 : decode cX5_dropUsed 11 = .ok (.getfield 21, 3) := by decide +kernel
theorem dX5_dropUsed_14 : decode cX5_dropUsed 14 = .ok (.getfield 185, 3) := by decide +kernel
theorem dX5_dropUsed_17 : decode cX5_dropUsed 17 = .ok (.goto 9, 3) := by decide +kernel
theorem dX5_dropUsed_20 : decode cX5_dropUsed 20 = .ok (.aload_n 0, 1) := by decide +kernel
theorem dX5_dropUsed_21 : decode cX5_dropUsed 21 = .ok (.getfield 43, 3) := by decide +kernel
theorem dX5_dropUsed_24 : decode cX5_dropUsed 24 = .ok (.iconst 1, 1) := by decide +kernel
theorem dX5_dropUsed_25 : decode cX5_dropUsed 25 = .ok (.isub, 1) := by decide +kernel
theorem dX5_dropUsed_26 : decode cX5_dropUsed 26 = .ok (.istore_n 1, 1) := by decide +kernel
theorem dX5_dropUsed_27 : decode cX5_dropUsed 27 = .ok (.aload_n 0, 1) := by decide +kernel
theorem dX5_dropUsed_28 : decode cX5_dropUsed 28 = .ok (.getfield 14, 3) := by decide +kernel
theorem dX5_dropUsed_31 : decode cX5_dropUsed 31 = .ok (.iload_n 1, 1) := by decide +kernel
theorem dX5_dropUsed_32 : decode cX5_dropUsed 32 = .ok (.invokevirtual 242, 3) := by decide +kernel
theorem dX5_dropUsed_35 : decode cX5_dropUsed 35 = .ok (.aload_n 0, 1) := by decide +kernel
theorem dX5_dropUsed_36 : decode cX5_dropUsed 36 = .ok (.getfield 21, 3) := by decide +kernel
theorem dX5_dropUsed_39 : decode cX5_dropUsed 39 = .ok (.iconst 0, 1) := by decide +kernel
theorem dX5_dropUsed_40 : decode cX5_dropUsed 40 = .ok (.putfield 185, 3) := by decide +kernel
theorem dX5_dropUsed_43 : decode cX5_dropUsed 43 = .ok (.aload_n 0, 1) := by decide +kernel
theorem dX5_dropUsed_44 : decode cX5_dropUsed 44 = .ok (.dup, 1) := by decide +kernel
theorem dX5_dropUsed_45 : decode cX5_dropUsed 45 = .ok (.getfield 43, 3) := by decide +kernel
theorem dX5_dropUsed_48 : decode cX5_dropUsed 48 = .ok (.iload_n 1, 1) := by decide +kernel
theorem dX5_dropUsed_49 : decode cX5_dropUsed 49 = .ok (.isub, 1) := by decide +kernel
theorem dX5_dropUsed_50 : decode cX5_dropUsed 50 = .ok (.putfield 43, 3) := by decide +kernel
theorem dX5_dropUsed_53 : decode cX5_dropUsed 53 = .ok (.return_, 1) := by decide +kernel
theorem dX5_isSize_0 : decode cX5_isSize 0 = .ok (.lload_n 0, 1) := by decide +kernel
theorem dX5_isSize_1 : decode cX5_isSize 1 = .ok (.ldc2_w 245, 3) := by decide +kernel
theorem dX5_isSize_4 : decode cX5_isSize 4 = .ok (.lcmp, 1) := by decide +kernel
theorem dX5_isSize_5 : decode cX5_isSize 5 = .ok (.ifCond .lt 15, 3) := by decide +kernel
theorem dX5_isSize_8 : decode cX5_isSize 8 = .ok (.lload_n 0, 1) := by decide +kernel
theorem dX5_isSize_9 : decode cX5_isSize 9 = .ok (.ldc2_w 247, 3) := by decide +kernel
theorem dX5_isSize_12 : decode cX5_isSize 12 = .ok (.lcmp, 1) := by decide +kernel
theorem dX5_isSize_13 : decode cX5_isSize 13 = .ok (.ifCond .gt 7, 3) := by decide +kernel
theorem dX5_isSize_16 : decode cX5_isSize 16 = .ok (.iconst 1, 1) := by decide +kernel
theorem dX5_isSize_17 : decode cX5_isSize 17 = .ok (.goto 4, 3) := by decide +kernel
theorem dX5_isSize_20 : decode cX5_isSize 20 = .ok (.iconst 0, 1) := by decide +kernel
theorem dX5_isSize_21 : decode cX5_isSize 21 = .ok (.ireturn, 1) := by decide +kernel
set_option maxRecDepth 20000 in
theorem ggX5_isGlue_X5_isSize : GoodIn wsX5_isGlue wsX5_isSize := goodIn_r _ [4, 5, 6] (by decide +kernel) (by decide +kernel)
set_option maxRecDepth 20000 in
theorem gX5_isGlue_X5_isSize : GoodIn wsX5_isGlue (va_wsS RX5 47 yX5_isSize wsX5_isSize) := goodIn_app (goodIn_of _ (by decide +kernel)) ggX5_isGlue_X5_isSize
theorem dX5_isGlue_0 : decode cX5_isGlue 0 = .ok (.iload_n 0, 1) := by decide +kernel
theorem dX5_isGlue_1 : decode cX5_isGlue 1 = .ok (.i2l, 1) := by decide +kernel
theorem dX5_isGlue_2 : decode cX5_isGlue 2 = .ok (.invokestatic 47, 3) := by decide +kernel
theorem dX5_isGlue_5 : decode cX5_isGlue 5 = .ok (.ifCond .eq 40, 3) := by decide +kernel
theorem dX5_isGlue_8 : decode cX5_isGlue 8 = .ok (.iload_n 1, 1) := by decide +kernel
theorem dX5_isGlue_9 : decode cX5_isGlue 9 = .ok (.i2l, 1) := by decide +kernel
theorem dX5_isGlue_10 : decode cX5_isGlue 10 = .ok (.invokestatic 47, 3) := by decide +kernel
theorem dX5_isGlue_13 : decode cX5_isGlue 13 = .ok (.ifCond .eq 32, 3) := by decide +kernel
theorem dX5_isGlue_16 : decode cX5_isGlue 16 = .ok (.iload_n 1, 1) := by decide +kernel
theorem dX5_isGlue_17 : decode cX5_isGlue 17 = .ok (.ifCond .lt 28, 3) := by decide +kernel
theorem dX5_isGlue_20 : decode cX5_isGlue 20 = .ok (.iload_n 2, 1) := by decide +kernel
theorem dX5_isGlue_21 : decode cX5_isGlue 21 = .ok (.ifCond .lt 24, 3) := by decide +kernel
theorem dX5_isGlue_24 : decode cX5_isGlue 24 = .ok (.iload_n 2, 1) := by decide +kernel
theorem dX5_isGlue_25 : decode cX5_isGlue 25 = .ok (.iconst 4, 1) := by decide +kernel
theorem dX5_isGlue_26 : decode cX5_isGlue 26 = .ok (.if_icmp .ge 19, 3) := by decide +kernel
theorem dX5_isGlue_29 : decode cX5_isGlue 29 = .ok (.iload_n 3, 1) := by decide +kernel
theorem dX5_isGlue_30 : decode cX5_isGlue 30 = .ok (.i2l, 1) := by decide +kernel
theorem dX5_isGlue_31 : decode cX5_isGlue 31 = .ok (.invokestatic 47, 3) := by decide +kernel
theorem dX5_isGlue_34 : decode cX5_isGlue 34 = .ok (.ifCond .eq 11, 3) := by decide +kernel
theorem dX5_isGlue_37 : decode cX5_isGlue 37 = .ok (.iload_n 3, 1) := by decide +kernel
theorem dX5_isGlue_38 : decode cX5_isGlue 38 = .ok (.ifCond .lt 7, 3) := by decide +kernel
theorem dX5_isGlue_41 : decode cX5_isGlue 41 = .ok (.iconst 1, 1) := by decide +kernel
theorem dX5_isGlue_42 : decode cX5_isGlue 42 = .ok (.goto 4, 3) := by decide +kernel
theorem dX5_isGlue_45 : decode cX5_isGlue 45 = .ok (.iconst 0, 1) := by decide +kernel
theorem dX5_isGlue_46 : decode cX5_isGlue 46 = .ok (.ireturn, 1) := by decide +kernel
theorem dX5_isSolid_0 : decode cX5_isSolid 0 = .ok (.iload_n 0, 1) := by decide +kernel
theorem dX5_isSolid_1 : decode cX5_isSolid 1 = .ok (.iconst 2, 1) := by decide +kernel
theorem dX5_isSolid_2 : decode cX5_isSolid 2 = .ok (.if_icmp .eq 8, 3) := by decide +kernel
theorem dX5_isSolid_5 : decode cX5_isSolid 5 = .ok (.iload_n 0, 1) := by decide +kernel
theorem dX5_isSolid_6 : decode cX5_isSolid 6 = .ok (.iconst 4, 1) := by decide +kernel
theorem dX5_isSolid_7 : decode cX5_isSolid 7 = .ok (.if_icmp .ne 7, 3) := by decide +kernel
theorem dX5_isSolid_10 : decode cX5_isSolid 10 = .ok (.iconst 1, 1) := by decide +kernel
theorem dX5_isSolid_11 : decode cX5_isSolid 11 = .ok (.goto 4, 3) := by decide +kernel
theorem dX5_isSolid_14 : decode cX5_isSolid 14 = .ok (.iconst 0, 1) := by decide +kernel
theorem dX5_isSolid_15 : decode cX5_isSolid 15 = .ok (.ireturn, 1) := by decide +kernel
theorem dX5_badness_0 : decode cX5_badness 0 = .ok (.lload_n 0, 1) := by decide +kernel
theorem dX5_badness_1 : decode cX5_badness 1 = .ok (.lconst 0, 1) := by decide +kernel
theorem dX5_badness_2 : decode cX5_badness 2 = .ok (.lcmp, 1) := by decide +kernel
theorem dX5_badness_3 : decode cX5_badness 3 = .ok (.ifCond .ne 5, 3) := by decide +kernel
theorem dX5_badness_6 : decode cX5_badness 6 = .ok (.lconst 0, 1) := by decide +kernel
theorem dX5_badness_7 : decode cX5_badness 7 = .ok (.lreturn, 1) := by decide +kernel
theorem dX5_badness_8 : decode cX5_badness 8 = .ok (.lload_n 2, 1) := by decide +kernel
theorem dX5_badness_9 : decode cX5_badness 9 = .ok (.lconst 0, 1) := by decide +kernel
theorem dX5_badness_10 : decode cX5_badness 10 = .ok (.lcmp, 1) := by decide +kernel
theorem dX5_badness_11 : decode cX5_badness 11 = .ok (.ifCond .gt 7, 3) := by decide +kernel
theorem dX5_badness_14 : decode cX5_badness 14 = .ok (.ldc2_w 249, 3) := by decide +kernel
theorem dX5_badness_17 : decode cX5_badness 17 = .ok (.lreturn, 1) := by decide +kernel
theorem dX5_badness_18 : decode cX5_badness 18 = .ok (.ldc2_w 251, 3) := by decide +kernel
theorem dX5_badness_21 : decode cX5_badness 21 = .ok (.lload_n 0, 1) := by decide +kernel
theorem dX5_badness_22 : decode cX5_badness 22 = .ok (.lmul, 1) := by decide +kernel
theorem dX5_badness_23 : decode cX5_badness 23 = .ok (.lload_n 2, 1) := by decide +kernel
theorem dX5_badness_24 : decode cX5_badness 24 = .ok (.ldiv, 1) := by decide +kernel
theorem dX5_badness_25 : decode cX5_badness 25 = .ok (.lstore 4, 2) := by decide +kernel
theorem dX5_badness_27 : decode cX5_badness 27 = .ok (.lload 4, 2) := by decide +kernel
theorem dX5_badness_29 : decode cX5_badness 29 = .ok (.ldc2_w 253, 3) := by decide +kernel
theorem dX5_badness_32 : decode cX5_badness 32 = .ok (.lcmp, 1) := by decide +kernel
theorem dX5_badness_33 : decode cX5_badness 33 = .ok (.ifCond .le 9, 3) := by decide +kernel
theorem dX5_badness_36 : decode cX5_badness 36 = .ok (.ldc2_w 249, 3) := by decide +kernel
theorem dX5_badness_39 : decode cX5_badness 39 = .ok (.goto 19, 3) := by decide +kernel
theorem dX5_badness_42 : decode cX5_badness 42 = .ok (.lload 4, 2) := by decide +kernel
theorem dX5_badness_44 : decode cX5_badness 44 = .ok (.lload 4, 2) := by decide +kernel
theorem dX5_badness_46 : decode cX5_badness 46 = .ok (.lmul, 1) := by decide +kernel
theorem dX5_badness_47 : decode cX5_badness 47 = .ok (.lload 4, 2) := by decide +kernel
theorem dX5_badness_49 : decode cX5_badness 49 = .ok (.lmul, 1) := by decide +kernel
theorem dX5_badness_50 : decode cX5_badness 50 = .ok (.ldc2_w 255, 3) := by decide +kernel
theorem dX5_badness_53 : decode cX5_badness 53 = .ok (.ladd, 1) := by decide +kernel
theorem dX5_badness_54 : decode cX5_badness 54 = .ok (.ldc2_w 257, 3) := by decide +kernel
theorem dX5_badness_57 : decode cX5_badness 57 = .ok (.ldiv, 1) := by decide +kernel
theorem dX5_badness_58 : decode cX5_badness 58 = .ok (.lreturn, 1) := by decide +kernel
theorem dX5_near_0 : decode cX5_near 0 = .ok (.lload_n 2, 1) := by decide +kernel
theorem dX5_near_1 : decode cX5_near 1 = .ok (.lconst 0, 1) := by decide +kernel
theorem dX5_near_2 : decode cX5_near 2 = .ok (.lcmp, 1) := by decide +kernel
theorem dX5_near_3 : decode cX5_near 3 = .ok (.ifCond .gt 5, 3) := by decide +kernel
theorem dX5_near_6 : decode cX5_near 6 = .ok (.lconst 0, 1) := by decide +kernel
theorem dX5_near_7 : decode cX5_near 7 = .ok (.lreturn, 1) := by decide +kernel
theorem dX5_near_8 : decode cX5_near 8 = .ok (.ldc2_w 259, 3) := by decide +kernel
theorem dX5_near_11 : decode cX5_near 11 = .ok (.lload_n 0, 1) := by decide +kernel
theorem dX5_near_12 : decode cX5_near 12 = .ok (.invokestatic 261, 3) := by decide +kernel
theorem dX5_near_15 : decode cX5_near 15 = .ok (.lmul, 1) := by decide +kernel
theorem dX5_near_16 : decode cX5_near 16 = .ok (.lload_n 2, 1) := by decide +kernel
theorem dX5_near_17 : decode cX5_near 17 = .ok (.ladd, 1) := by decide +kernel
theorem dX5_near_18 : decode cX5_near 18 = .ok (.ldc2_w 259, 3) := by decide +kernel
theorem dX5_near_21 : decode cX5_near 21 = .ok (.lload_n 2, 1) := by decide +kernel
theorem dX5_near_22 : decode cX5_near 22 = .ok (.lmul, 1) := by decide +kernel
theorem dX5_near_23 : decode cX5_near 23 = .ok (.ldiv, 1) := by decide +kernel
theorem dX5_near_24 : decode cX5_near 24 = .ok (.lstore 4, 2) := by decide +kernel
theorem dX5_near_26 : decode cX5_near 26 = .ok (.lload_n 0, 1) := by decide +kernel
theorem dX5_near_27 : decode cX5_near 27 = .ok (.lconst 0, 1) := by decide +kernel
theorem dX5_near_28 : decode cX5_near 28 = .ok (.lcmp, 1) := by decide +kernel
theorem dX5_near_29 : decode cX5_near 29 = .ok (.ifCond .ge 9, 3) := by decide +kernel
theorem dX5_near_32 : decode cX5_near 32 = .ok (.lload 4, 2) := by decide +kernel
theorem dX5_near_34 : decode cX5_near 34 = .ok (.lneg, 1) := by decide +kernel
theorem dX5_near_35 : decode cX5_near 35 = .ok (.goto 5, 3) := by decide +kernel
theorem dX5_near_38 : decode cX5_near 38 = .ok (.lload 4, 2) := by decide +kernel
theorem dX5_near_40 : decode cX5_near 40 = .ok (.lreturn, 1) := by decide +kernel
theorem dX6_init_0 : decode cX6_init 0 = .ok (.aload_n 0, 1) := by decide +kernel
theorem dX6_init_1 : decode cX6_init 1 = .ok (.invokespecial 1, 3) := by decide +kernel
theorem dX6_init_4 : decode cX6_init 4 = .ok (.aload_n 0, 1) := by decide +kernel
theorem dX6_init_5 : decode cX6_init 5 = .ok (.sipush 12700, 3) := by decide +kernel
theorem dX6_init_8 : decode cX6_init 8 = .ok (.newarray .int, 2) := by decide +kernel
theorem dX6_init_10 : decode cX6_init 10 = .ok (.putfield 7, 3) := by decide +kernel
theorem dX6_init_13 : decode cX6_init 13 = .ok (.aload_n 0, 1) := by decide +kernel
theorem dX6_init_14 : decode cX6_init 14 = .ok (.sipush 12700, 3) := by decide +kernel
theorem dX6_init_17 : decode cX6_init 17 = .ok (.newarray .int, 2) := by decide +kernel
theorem dX6_init_19 : decode cX6_init 19 = .ok (.putfield 13, 3) := by decide +kernel
theorem dX6_init_22 : decode cX6_init 22 = .ok (.aload_n 0, 1) := by decide +kernel
theorem dX6_init_23 : decode cX6_init 23 = .ok (.sipush 12700, 3) := by decide +kernel
theorem dX6_init_26 : decode cX6_init 26 = .ok (.newarray .int, 2) := by decide +kernel
theorem dX6_init_28 : decode cX6_init 28 = .ok (.putfield 16, 3) := by decide +kernel
theorem dX6_init_31 : decode cX6_init 31 = .ok (.aload_n 0, 1) := by decide +kernel
theorem dX6_init_32 : decode cX6_init 32 = .ok (.sipush 12700, 3) := by decide +kernel
theorem dX6_init_35 : decode cX6_init 35 = .ok (.newarray .int, 2) := by decide +kernel
theorem dX6_init_37 : decode cX6_init 37 = .ok (.putfield 19, 3) := by decide +kernel
theorem dX6_init_40 : decode cX6_init 40 = .ok (.aload_n 0, 1) := by decide +kernel
theorem dX6_init_41 : decode cX6_init 41 = .ok (.sipush 12700, 3) := by decide +kernel
theorem dX6_init_44 : decode cX6_init 44 = .ok (.newarray .int, 2) := by decide +kernel
theorem dX6_init_46 : decode cX6_init 46 = .ok (.putfield 22, 3) := by decide +kernel
theorem dX6_init_49 : decode cX6_init 49 = .ok (.aload_n 0, 1) := by decide +kernel
theorem dX6_init_50 : decode cX6_init 50 = .ok (.sipush 12700, 3) := by decide +kernel
theorem dX6_init_53 : decode cX6_init 53 = .ok (.newarray .int, 2) := by decide +kernel
theorem dX6_init_55 : decode cX6_init 55 = .ok (.putfield 25, 3) := by decide +kernel
theorem dX6_init_58 : decode cX6_init 58 = .ok (.aload_n 0, 1) := by decide +kernel
theorem dX6_init_59 : decode cX6_init 59 = .ok (.sipush 12700, 3) := by decide +kernel
theorem dX6_init_62 : decode cX6_init 62 = .ok (.newarray .int, 2) := by decide +kernel
theorem dX6_init_64 : decode cX6_init 64 = .ok (.putfield 28, 3) := by decide +kernel
theorem dX6_init_67 : decode cX6_init 67 = .ok (.aload_n 0, 1) := by decide +kernel
theorem dX6_init_68 : decode cX6_init 68 = .ok (.sipush 12700, 3) := by decide +kernel
theorem dX6_init_71 : decode cX6_init 71 = .ok (.newarray .long, 2) := by decide +kernel
theorem dX6_init_73 : decode cX6_init 73 = .ok (.putfield 31, 3) := by decide +kernel
theorem dX6_init_76 : decode cX6_init 76 = .ok (.aload_n 0, 1) := by decide +kernel
theorem dX6_init_77 : decode cX6_init 77 = .ok (.bipush 9, 2) := by decide +kernel
theorem dX6_init_79 : decode cX6_init 79 = .ok (.newarray .int, 2) := by decide +kernel
theorem dX6_init_81 : decode cX6_init 81 = .ok (.putfield 35, 3) := by decide +kernel
theorem dX6_init_84 : decode cX6_init 84 = .ok (.aload_n 0, 1) := by decide +kernel
theorem dX6_init_85 : decode cX6_init 85 = .ok (.bipush 9, 2) := by decide +kernel
theorem dX6_init_87 : decode cX6_init 87 = .ok (.newarray .int, 2) := by decide +kernel
theorem dX6_init_89 : decode cX6_init 89 = .ok (.putfield 38, 3) := by decide +kernel
theorem dX6_init_92 : decode cX6_init 92 = .ok (.aload_n 0, 1) := by decide +kernel
theorem dX6_init_93 : decode cX6_init 93 = .ok (.bipush 9, 2) := by decide +kernel
theorem dX6_init_95 : decode cX6_init 95 = .ok (.newarray .int, 2) := by decide +kernel
theorem dX6_init_97 : decode cX6_init 97 = .ok (.putfield 41, 3) := by decide +kernel
theorem dX6_init_100 : decode cX6_init 100 = .ok (.aload_n 0, 1) := by decide +kernel
theorem dX6_init_101 : decode cX6_init 101 = .ok (.bipush 9, 2) := by decide +kernel
theorem dX6_init_103 : decode cX6_init 103 = .ok (.newarray .int, 2) := by decide +kernel
theorem dX6_init_105 : decode cX6_init 105 = .ok (.putfield 44, 3) := by decide +kernel
theorem dX6_init_108 : decode cX6_init 108 = .ok (.aload_n 0, 1) := by decide +kernel
theorem dX6_init_109 : decode cX6_init 109 = .ok (.iconst (-1), 1) := by decide +kernel
theorem dX6_init_110 : decode cX6_init 110 = .ok (.putfield 47, 3) := by decide +kernel
theorem dX6_init_113 : decode cX6_init 113 = .ok (.aload_n 0, 1) := by decide +kernel
theorem dX6_init_114 : decode cX6_init 114 = .ok (.iconst 4, 1) := by decide +kernel
theorem dX6_init_115 : decode cX6_init 115 = .ok (.newarray .long, 2) := by decide +kernel
theorem dX6_init_117 : decode cX6_init 117 = .ok (.putfield 51, 3) := by decide +kernel
theorem dX6_init_120 : decode cX6_init 120 = .ok (.return_, 1) := by decide +kernel
theorem dX6_thrown_0 : decode cX6_thrown 0 = .ok (.aload_n 0, 1) := by decide +kernel
theorem dX6_thrown_1 : decode cX6_thrown 1 = .ok (.getfield 54, 3) := by decide +kernel
theorem dX6_thrown_4 : decode cX6_thrown 4 = .ok (.ireturn, 1) := by decide +kernel
theorem dX6_fails_0 : decode cX6_fails 0 = .ok (.aload_n 0, 1) := by decide +kernel
theorem dX6_fails_1 : decode cX6_fails 1 = .ok (.iconst 1, 1) := by decide +kernel
theorem dX6_fails_2 : decode cX6_fails 2 = .ok (.putfield 54, 3) := by decide +kernel
theorem dX6_fails_5 : decode cX6_fails 5 = .ok (.iconst 0, 1) := by decide +kernel
theorem dX6_fails_6 : decode cX6_fails 6 = .ok (.ireturn, 1) := by decide +kernel
theorem dX6_isSize_0 : decode cX6_isSize 0 = .ok (.iload_n 0, 1) := by decide +kernel
theorem dX6_isSize_1 : decode cX6_isSize 1 = .ok (.ldc 57, 2) := by decide +kernel
theorem dX6_isSize_3 : decode cX6_isSize 3 = .ok (.if_icmp .lt 13, 3) := by decide +kernel
end
section
theorem dX6_isSize_6 : decode cX6_isSize 6 = .ok (.iload_n 0, 1) := by decide +kernel
theorem dX6_isSize_7 : decode cX6_isSize 7 = .ok (.ldc 58, 2) := by decide +kernel
theorem dX6_isSize_9 : decode cX6_isSize 9 = .ok (.if_icmp .gt 7, 3) := by decide +kernel
theorem dX6_isSize_12 : decode cX6_isSize 12 = .ok (.iconst 1, 1) := by decide +kernel
theorem dX6_isSize_13 : decode cX6_isSize 13 = .ok (.goto 4, 3) := by decide +kernel
theorem dX6_isSize_16 : decode cX6_isSize 16 = .ok (.iconst 0, 1) := by decide +kernel
theorem dX6_isSize_17 : decode cX6_isSize 17 = .ok (.ireturn, 1) := by decide +kernel
theorem dX6_isSizeLong_0 : decode cX6_isSizeLong 0 = .ok (.lload_n 0, 1) := by decide +kernel
theorem dX6_isSizeLong_1 : decode cX6_isSizeLong 1 = .ok (.ldc2_w 59, 3) := by decide +kernel
theorem dX6_isSizeLong_4 : decode cX6_isSizeLong 4 = .ok (.lcmp, 1) := by decide +kernel
theorem dX6_isSizeLong_5 : decode cX6_isSizeLong 5 = .ok (.ifCond .lt 15, 3) := by decide +kernel
theorem dX6_isSizeLong_8 : decode cX6_isSizeLong 8 = .ok (.lload_n 0, 1) := by decide +kernel
theorem dX6_isSizeLong_9 : decode cX6_isSizeLong 9 = .ok (.ldc2_w 61, 3) := by decide +kernel
theorem dX6_isSizeLong_12 : decode cX6_isSizeLong 12 = .ok (.lcmp, 1) := by decide +kernel
theorem dX6_isSizeLong_13 : decode cX6_isSizeLong 13 = .ok (.ifCond .gt 7, 3) := by decide +kernel
theorem dX6_isSizeLong_16 : decode cX6_isSizeLong 16 = .ok (.iconst 1, 1) := by decide +kernel
theorem dX6_isSizeLong_17 : decode cX6_isSizeLong 17 = .ok (.goto 4, 3) := by decide +kernel
theorem dX6_isSizeLong_20 : decode cX6_isSizeLong 20 = .ok (.iconst 0, 1) := by decide +kernel
theorem dX6_isSizeLong_21 : decode cX6_isSizeLong 21 = .ok (.ireturn, 1) := by decide +kernel
set_option maxRecDepth 20000 in
theorem ggX6_page_X6_isSize : GoodIn wsX6_page wsX6_isSize := goodIn_r _ [7, 8, 9] (by decide +kernel) (by decide +kernel)
set_option maxRecDepth 20000 in
theorem gX6_page_X6_isSize : GoodIn wsX6_page (va_wsS RX6 63 yX6_isSize wsX6_isSize) := goodIn_app (goodIn_of _ (by decide +kernel)) ggX6_page_X6_isSize
theorem dX6_page_0 : decode cX6_page 0 = .ok (.aload_n 0, 1) := by decide +kernel
theorem dX6_page_1 : decode cX6_page 1 = .ok (.iconst 0, 1) := by decide +kernel
theorem dX6_page_2 : decode cX6_page 2 = .ok (.putfield 54, 3) := by decide +kernel
theorem dX6_page_5 : decode cX6_page 5 = .ok (.iload_n 1, 1) := by decide +kernel
theorem dX6_page_6 : decode cX6_page 6 = .ok (.invokestatic 63, 3) := by decide +kernel
theorem dX6_page_9 : decode cX6_page 9 = .ok (.ifCond .eq 14, 3) := by decide +kernel
theorem dX6_page_12 : decode cX6_page 12 = .ok (.iload_n 2, 1) := by decide +kernel
theorem dX6_page_13 : decode cX6_page 13 = .ok (.invokestatic 63, 3) := by decide +kernel
theorem dX6_page_16 : decode cX6_page 16 = .ok (.ifCond .eq 7, 3) := by decide +kernel
theorem dX6_page_19 : decode cX6_page 19 = .ok (.iload_n 2, 1) := by decide +kernel
theorem dX6_page_20 : decode cX6_page 20 = .ok (.ifCond .ge 5, 3) := by decide +kernel
theorem dX6_page_23 : decode cX6_page 23 = .ok (.iconst 0, 1) := by decide +kernel
theorem dX6_page_24 : decode cX6_page 24 = .ok (.ireturn, 1) := by decide +kernel
theorem dX6_page_25 : decode cX6_page 25 = .ok (.aload_n 0, 1) := by decide +kernel
theorem dX6_page_26 : decode cX6_page 26 = .ok (.iload_n 1, 1) := by decide +kernel
theorem dX6_page_27 : decode cX6_page 27 = .ok (.putfield 67, 3) := by decide +kernel
theorem dX6_page_30 : decode cX6_page 30 = .ok (.aload_n 0, 1) := by decide +kernel
theorem dX6_page_31 : decode cX6_page 31 = .ok (.iload_n 2, 1) := by decide +kernel
theorem dX6_page_32 : decode cX6_page 32 = .ok (.putfield 70, 3) := by decide +kernel
theorem dX6_page_35 : decode cX6_page 35 = .ok (.iconst 1, 1) := by decide +kernel
theorem dX6_page_36 : decode cX6_page 36 = .ok (.ireturn, 1) := by decide +kernel
set_option maxRecDepth 20000 in
theorem ggX6_isGlue_X6_isSize : GoodIn wsX6_isGlue wsX6_isSize := goodIn_r _ [4, 5, 6] (by decide +kernel) (by decide +kernel)
set_option maxRecDepth 20000 in
theorem gX6_isGlue_X6_isSize : GoodIn wsX6_isGlue (va_wsS RX6 63 yX6_isSize wsX6_isSize) := goodIn_app (goodIn_of _ (by decide +kernel)) ggX6_isGlue_X6_isSize
theorem dX6_isGlue_0 : decode cX6_isGlue 0 = .ok (.iload_n 0, 1) := by decide +kernel
theorem dX6_isGlue_1 : decode cX6_isGlue 1 = .ok (.invokestatic 63, 3) := by decide +kernel
theorem dX6_isGlue_4 : decode cX6_isGlue 4 = .ok (.ifCond .eq 38, 3) := by decide +kernel
theorem dX6_isGlue_7 : decode cX6_isGlue 7 = .ok (.iload_n 1, 1) := by decide +kernel
theorem dX6_isGlue_8 : decode cX6_isGlue 8 = .ok (.invokestatic 63, 3) := by decide +kernel
theorem dX6_isGlue_11 : decode cX6_isGlue 11 = .ok (.ifCond .eq 31, 3) := by decide +kernel
theorem dX6_isGlue_14 : decode cX6_isGlue 14 = .ok (.iload_n 3, 1) := by decide +kernel
theorem dX6_isGlue_15 : decode cX6_isGlue 15 = .ok (.invokestatic 63, 3) := by decide +kernel
theorem dX6_isGlue_18 : decode cX6_isGlue 18 = .ok (.ifCond .eq 24, 3) := by decide +kernel
theorem dX6_isGlue_21 : decode cX6_isGlue 21 = .ok (.iload_n 1, 1) := by decide +kernel
theorem dX6_isGlue_22 : decode cX6_isGlue 22 = .ok (.ifCond .lt 20, 3) := by decide +kernel
theorem dX6_isGlue_25 : decode cX6_isGlue 25 = .ok (.iload_n 3, 1) := by decide +kernel
theorem dX6_isGlue_26 : decode cX6_isGlue 26 = .ok (.ifCond .lt 16, 3) := by decide +kernel
theorem dX6_isGlue_29 : decode cX6_isGlue 29 = .ok (.iload_n 2, 1) := by decide +kernel
theorem dX6_isGlue_30 : decode cX6_isGlue 30 = .ok (.ifCond .lt 12, 3) := by decide +kernel
theorem dX6_isGlue_33 : decode cX6_isGlue 33 = .ok (.iload_n 2, 1) := by decide +kernel
theorem dX6_isGlue_34 : decode cX6_isGlue 34 = .ok (.iconst 4, 1) := by decide +kernel
theorem dX6_isGlue_35 : decode cX6_isGlue 35 = .ok (.if_icmp .ge 7, 3) := by decide +kernel
theorem dX6_isGlue_38 : decode cX6_isGlue 38 = .ok (.iconst 1, 1) := by decide +kernel
theorem dX6_isGlue_39 : decode cX6_isGlue 39 = .ok (.goto 4, 3) := by decide +kernel
theorem dX6_isGlue_42 : decode cX6_isGlue 42 = .ok (.iconst 0, 1) := by decide +kernel
theorem dX6_isGlue_43 : decode cX6_isGlue 43 = .ok (.ireturn, 1) := by decide +kernel
set_option maxRecDepth 20000 in
theorem ggX6_top_X6_isGlue : GoodIn wsX6_top wsX6_isGlue := goodIn_r _ [9, 10, 11, 8, 12, 13, 14] (by decide +kernel) (by decide +kernel)
set_option maxRecDepth 20000 in
theorem gX6_top_X6_isGlue : GoodIn wsX6_top (va_wsS RX6 73 yX6_isGlue wsX6_isGlue) := goodIn_app (goodIn_of _ (by decide +kernel)) ggX6_top_X6_isGlue
theorem dX6_top_0 : decode cX6_top 0 = .ok (.aload_n 0, 1) := by decide +kernel
theorem dX6_top_1 : decode cX6_top 1 = .ok (.iconst 0, 1) := by decide +kernel
theorem dX6_top_2 : decode cX6_top 2 = .ok (.putfield 54, 3) := by decide +kernel
theorem dX6_top_5 : decode cX6_top 5 = .ok (.iload_n 1, 1) := by decide +kernel
theorem dX6_top_6 : decode cX6_top 6 = .ok (.iload_n 2, 1) := by decide +kernel
theorem dX6_top_7 : decode cX6_top 7 = .ok (.iload_n 3, 1) := by decide +kernel
theorem dX6_top_8 : decode cX6_top 8 = .ok (.iload 4, 2) := by decide +kernel
theorem dX6_top_10 : decode cX6_top 10 = .ok (.invokestatic 73, 3) := by decide +kernel
theorem dX6_top_13 : decode cX6_top 13 = .ok (.ifCond .ne 5, 3) := by decide +kernel
theorem dX6_top_16 : decode cX6_top 16 = .ok (.iconst 0, 1) := by decide +kernel
theorem dX6_top_17 : decode cX6_top 17 = .ok (.ireturn, 1) := by decide +kernel
theorem dX6_top_18 : decode cX6_top 18 = .ok (.aload_n 0, 1) := by decide +kernel
theorem dX6_top_19 : decode cX6_top 19 = .ok (.iload_n 1, 1) := by decide +kernel
theorem dX6_top_20 : decode cX6_top 20 = .ok (.putfield 77, 3) := by decide +kernel
theorem dX6_top_23 : decode cX6_top 23 = .ok (.aload_n 0, 1) := by decide +kernel
theorem dX6_top_24 : decode cX6_top 24 = .ok (.iload_n 2, 1) := by decide +kernel
theorem dX6_top_25 : decode cX6_top 25 = .ok (.putfield 80, 3) := by decide +kernel
theorem dX6_top_28 : decode cX6_top 28 = .ok (.aload_n 0, 1) := by decide +kernel
theorem dX6_top_29 : decode cX6_top 29 = .ok (.iload_n 3, 1) := by decide +kernel
theorem dX6_top_30 : decode cX6_top 30 = .ok (.putfield 83, 3) := by decide +kernel
theorem dX6_top_33 : decode cX6_top 33 = .ok (.aload_n 0, 1) := by decide +kernel
theorem dX6_top_34 : decode cX6_top 34 = .ok (.iload 4, 2) := by decide +kernel
theorem dX6_top_36 : decode cX6_top 36 = .ok (.putfield 86, 3) := by decide +kernel
theorem dX6_top_39 : decode cX6_top 39 = .ok (.iconst 1, 1) := by decide +kernel
theorem dX6_top_40 : decode cX6_top 40 = .ok (.ireturn, 1) := by decide +kernel
theorem dX6_all_0 : decode cX6_all 0 = .ok (.aload_n 0, 1) := by decide +kernel
theorem dX6_all_1 : decode cX6_all 1 = .ok (.getfield 89, 3) := by decide +kernel
theorem dX6_all_4 : decode cX6_all 4 = .ok (.aload_n 0, 1) := by decide +kernel
theorem dX6_all_5 : decode cX6_all 5 = .ok (.getfield 92, 3) := by decide +kernel
theorem dX6_all_8 : decode cX6_all 8 = .ok (.iadd, 1) := by decide +kernel
theorem dX6_all_9 : decode cX6_all 9 = .ok (.istore_n 1, 1) := by decide +kernel
theorem dX6_all_10 : decode cX6_all 10 = .ok (.iconst 0, 1) := by decide +kernel
theorem dX6_all_11 : decode cX6_all 11 = .ok (.istore_n 2, 1) := by decide +kernel
theorem dX6_all_12 : decode cX6_all 12 = .ok (.iload_n 2, 1) := by decide +kernel
theorem dX6_all_13 : decode cX6_all 13 = .ok (.aload_n 0, 1) := by decide +kernel
theorem dX6_all_14 : decode cX6_all 14 = .ok (.getfield 95, 3) := by decide +kernel
theorem dX6_all_17 : decode cX6_all 17 = .ok (.if_icmp .ge 20, 3) := by decide +kernel
theorem dX6_all_20 : decode cX6_all 20 = .ok (.iload_n 1, 1) := by decide +kernel
theorem dX6_all_21 : decode cX6_all 21 = .ok (.aload_n 0, 1) := by decide +kernel
theorem dX6_all_22 : decode cX6_all 22 = .ok (.getfield 35, 3) := by decide +kernel
theorem dX6_all_25 : decode cX6_all 25 = .ok (.iload_n 2, 1) := by decide +kernel
theorem dX6_all_26 : decode cX6_all 26 = .ok (.iaload, 1) := by decide +kernel
theorem dX6_all_27 : decode cX6_all 27 = .ok (.iconst 1, 1) := by decide +kernel
theorem dX6_all_28 : decode cX6_all 28 = .ok (.iadd, 1) := by decide +kernel
theorem dX6_all_29 : decode cX6_all 29 = .ok (.iadd, 1) := by decide +kernel
theorem dX6_all_30 : decode cX6_all 30 = .ok (.istore_n 1, 1) := by decide +kernel
theorem dX6_all_31 : decode cX6_all 31 = .ok (.iinc 2 1, 3) := by decide +kernel
theorem dX6_all_34 : decode cX6_all 34 = .ok (.goto (-22), 3) := by decide +kernel
theorem dX6_all_37 : decode cX6_all 37 = .ok (.iload_n 1, 1) := by decide +kernel
theorem dX6_all_38 : decode cX6_all 38 = .ok (.ireturn, 1) := by decide +kernel
theorem dX6_write_0 : decode cX6_write 0 = .ok (.aload_n 0, 1) := by decide +kernel
theorem dX6_write_1 : decode cX6_write 1 = .ok (.getfield 7, 3) := by decide +kernel
theorem dX6_write_4 : decode cX6_write 4 = .ok (.iload_n 1, 1) := by decide +kernel
theorem dX6_write_5 : decode cX6_write 5 = .ok (.iload_n 2, 1) := by decide +kernel
theorem dX6_write_6 : decode cX6_write 6 = .ok (.iastore, 1) := by decide +kernel
theorem dX6_write_7 : decode cX6_write 7 = .ok (.aload_n 0, 1) := by decide +kernel
theorem dX6_write_8 : decode cX6_write 8 = .ok (.getfield 13, 3) := by decide +kernel
theorem dX6_write_11 : decode cX6_write 11 = .ok (.iload_n 1, 1) := by decide +kernel
theorem dX6_write_12 : decode cX6_write 12 = .ok (.iload_n 3, 1) := by decide +kernel
theorem dX6_write_13 : decode cX6_write 13 = .ok (.iastore, 1) := by decide +kernel
theorem dX6_write_14 : decode cX6_write 14 = .ok (.aload_n 0, 1) := by decide +kernel
theorem dX6_write_15 : decode cX6_write 15 = .ok (.getfield 16, 3) := by decide +kernel
theorem dX6_write_18 : decode cX6_write 18 = .ok (.iload_n 1, 1) := by decide +kernel
theorem dX6_write_19 : decode cX6_write 19 = .ok (.iload 4, 2) := by decide +kernel
theorem dX6_write_21 : decode cX6_write 21 = .ok (.iastore, 1) := by decide +kernel
theorem dX6_write_22 : decode cX6_write 22 = .ok (.aload_n 0, 1) := by decide +kernel
theorem dX6_write_23 : decode cX6_write 23 = .ok (.getfield 19, 3) := by decide +kernel
theorem dX6_write_26 : decode cX6_write 26 = .ok (.iload_n 1, 1) := by decide +kernel
theorem dX6_write_27 : decode cX6_write 27 = .ok (.iload 5, 2) := by decide +kernel
theorem dX6_write_29 : decode cX6_write 29 = .ok (.iastore, 1) := by decide +kernel
theorem dX6_write_30 : decode cX6_write 30 = .ok (.aload_n 0, 1) := by decide +kernel
theorem dX6_write_31 : decode cX6_write 31 = .ok (.getfield 22, 3) := by decide +kernel
theorem dX6_write_34 : decode cX6_write 34 = .ok (.iload_n 1, 1) := by decide +kernel
theorem dX6_write_35 : decode cX6_write 35 = .ok (.iload 6, 2) := by decide +kernel
theorem dX6_write_37 : decode cX6_write 37 = .ok (.iastore, 1) := by decide +kernel
theorem dX6_write_38 : decode cX6_write 38 = .ok (.aload_n 0, 1) := by decide +kernel
theorem dX6_write_39 : decode cX6_write 39 = .ok (.getfield 25, 3) := by decide +kernel
theorem dX6_write_42 : decode cX6_write 42 = .ok (.iload_n 1, 1) := by decide +kernel
theorem dX6_write_43 : decode cX6_write 43 = .ok (.iload 7, 2) := by decide +kernel
theorem dX6_write_45 : decode cX6_write 45 = .ok (.iastore, 1) := by decide +kernel
theorem dX6_write_46 : decode cX6_write 46 = .ok (.aload_n 0, 1) := by decide +kernel
theorem dX6_write_47 : decode cX6_write 47 = .ok (.getfield 28, 3) := by decide +kernel
theorem dX6_write_50 : decode cX6_write 50 = .ok (.iload_n 1, 1) := by decide +kernel
theorem dX6_write_51 : decode cX6_write 51 = .ok (.iload 8, 2) := by decide +kernel
theorem dX6_write_53 : decode cX6_write 53 = .ok (.iastore, 1) := by decide +kernel
theorem dX6_write_54 : decode cX6_write 54 = .ok (.aload_n 0, 1) := by decide +kernel
theorem dX6_write_55 : decode cX6_write 55 = .ok (.getfield 31, 3) := by decide +kernel
theorem dX6_write_58 : decode cX6_write 58 = .ok (.iload_n 1, 1) := by decide +kernel
theorem dX6_write_59 : decode cX6_write 59 = .ok (.lconst 0, 1) := by decide +kernel
theorem dX6_write_60 : decode cX6_write 60 = .ok (.lastore, 1) := by decide +kernel
theorem dX6_write_61 : decode cX6_write 61 = .ok (.return_, 1) := by decide +kernel
set_option maxRecDepth 20000 in
theorem ggX6_add_X6_all : GoodIn wsX6_add wsX6_all := goodIn_r _ [7, 2, 8, 9, 10, 23, 24, 25, 26, 27, 28, 29, 30, 31, 32, 33, 34, 35, 36, 37, 38, 39, 40, 41, 42, 43, 44, 45, 46, 47, 48, 49, 50, 51, 52, 53, 54] (by decide +kernel) (by decide +kernel)
set_option maxRecDepth 20000 in
theorem gX6_add_X6_all : GoodIn wsX6_add (wsV RX6 98 RX6 yX6_all wsX6_all) := goodIn_app (goodIn_of _ (by decide +kernel)) ggX6_add_X6_all
set_option maxRecDepth 20000 in
theorem ggX6_add_X6_write : GoodIn wsX6_add wsX6_write := goodIn_r _ [14, 15, 16, 17, 18, 19, 20, 21, 22, 23, 24, 25, 26, 27, 28, 29, 30, 31, 32, 33, 34, 35, 36, 37, 38, 39, 40, 41, 42, 43, 44, 45, 46, 47, 48, 49, 50, 51, 52, 53, 54] (by decide +kernel) (by decide +kernel)
set_option maxRecDepth 20000 in
theorem gX6_add_X6_write : GoodIn wsX6_add (wsV RX6 102 RX6 yX6_write wsX6_write) := goodIn_app (goodIn_of _ (by decide +kernel)) ggX6_add_X6_write
theorem dX6_add_0 : decode cX6_add 0 = .ok (.aload_n 0, 1) := by decide +kernel
theorem dX6_add_1 : decode cX6_add 1 = .ok (.iconst 0, 1) := by decide +kernel
theorem dX6_add_2 : decode cX6_add 2 = .ok (.putfield 54, 3) := by decide +kernel
theorem dX6_add_5 : decode cX6_add 5 = .ok (.iload_n 1, 1) := by decide +kernel
theorem dX6_add_6 : decode cX6_add 6 = .ok (.ifCond .eq 13, 3) := by decide +kernel
theorem dX6_add_9 : decode cX6_add 9 = .ok (.aload_n 0, 1) := by decide +kernel
theorem dX6_add_10 : decode cX6_add 10 = .ok (.invokevirtual 98, 3) := by decide +kernel
theorem dX6_add_13 : decode cX6_add 13 = .ok (.sipush 4000, 3) := by decide +kernel
theorem dX6_add_16 : decode cX6_add 16 = .ok (.if_icmp .lt 5, 3) := by decide +kernel
theorem dX6_add_19 : decode cX6_add 19 = .ok (.iconst 0, 1) := by decide +kernel
theorem dX6_add_20 : decode cX6_add 20 = .ok (.ireturn, 1) := by decide +kernel
theorem dX6_add_21 : decode cX6_add 21 = .ok (.aload_n 0, 1) := by decide +kernel
theorem dX6_add_22 : decode cX6_add 22 = .ok (.aload_n 0, 1) := by decide +kernel
theorem dX6_add_23 : decode cX6_add 23 = .ok (.getfield 89, 3) := by decide +kernel
theorem dX6_add_26 : decode cX6_add 26 = .ok (.iload_n 2, 1) := by decide +kernel
theorem dX6_add_27 : decode cX6_add 27 = .ok (.iload_n 3, 1) := by decide +kernel
theorem dX6_add_28 : decode cX6_add 28 = .ok (.iload 4, 2) := by decide +kernel
theorem dX6_add_30 : decode cX6_add 30 = .ok (.iload 5, 2) := by decide +kernel
theorem dX6_add_32 : decode cX6_add 32 = .ok (.iload 6, 2) := by decide +kernel
theorem dX6_add_34 : decode cX6_add 34 = .ok (.iload 7, 2) := by decide +kernel
theorem dX6_add_36 : decode cX6_add 36 = .ok (.iload 8, 2) := by decide +kernel
theorem dX6_add_38 : decode cX6_add 38 = .ok (.invokevirtual 102, 3) := by decide +kernel
theorem dX6_add_41 : decode cX6_add 41 = .ok (.aload_n 0, 1) := by decide +kernel
theorem dX6_add_42 : decode cX6_add 42 = .ok (.dup, 1) := by decide +kernel
theorem dX6_add_43 : decode cX6_add 43 = .ok (.getfield 89, 3) := by decide +kernel
theorem dX6_add_46 : decode cX6_add 46 = .ok (.iconst 1, 1) := by decide +kernel
theorem dX6_add_47 : decode cX6_add 47 = .ok (.iadd, 1) := by decide +kernel
theorem dX6_add_48 : decode cX6_add 48 = .ok (.putfield 89, 3) := by decide +kernel
theorem dX6_add_51 : decode cX6_add 51 = .ok (.iconst 1, 1) := by decide +kernel
theorem dX6_add_52 : decode cX6_add 52 = .ok (.ireturn, 1) := by decide +kernel
set_option maxRecDepth 20000 in
theorem ggX6_box_X6_isSize : GoodIn wsX6_box wsX6_isSize := goodIn_r _ [4, 5, 6] (by decide +kernel) (by decide +kernel)
set_option maxRecDepth 20000 in
theorem gX6_box_X6_isSize : GoodIn wsX6_box (va_wsS RX6 63 yX6_isSize wsX6_isSize) := goodIn_app (goodIn_of _ (by decide +kernel)) ggX6_box_X6_isSize
set_option maxRecDepth 20000 in
theorem ggX6_box_X6_add : GoodIn wsX6_box wsX6_add := goodIn_r _ [10, 11, 12, 13, 14, 15, 3, 16, 17, 18, 19, 20, 21, 22, 23, 24, 25, 26, 27, 28, 29, 30, 31, 32, 33, 34, 35, 36, 37, 38, 39, 40, 41, 42, 43, 44, 45, 46, 47, 48, 49, 50, 51, 52, 53, 54, 55, 56, 57, 58, 59, 60, 61, 62, 63] (by decide +kernel) (by decide +kernel)
set_option maxRecDepth 20000 in
theorem gX6_box_X6_add : GoodIn wsX6_box (wsV RX6 106 RX6 yX6_add wsX6_add) := goodIn_app (goodIn_of _ (by decide +kernel)) ggX6_box_X6_add
theorem dX6_box_0 : decode cX6_box 0 = .ok (.aload_n 0, 1) := by decide +kernel
theorem dX6_box_1 : decode cX6_box 1 = .ok (.iload_n 1, 1) := by decide +kernel
theorem dX6_box_2 : decode cX6_box 2 = .ok (.invokestatic 63, 3) := by decide +kernel
theorem dX6_box_5 : decode cX6_box 5 = .ok (.ifCond .eq 29, 3) := by decide +kernel
theorem dX6_box_8 : decode cX6_box 8 = .ok (.iload_n 2, 1) := by decide +kernel
theorem dX6_box_9 : decode cX6_box 9 = .ok (.invokestatic 63, 3) := by decide +kernel
theorem dX6_box_12 : decode cX6_box 12 = .ok (.ifCond .eq 22, 3) := by decide +kernel
theorem dX6_box_15 : decode cX6_box 15 = .ok (.iload_n 3, 1) := by decide +kernel
theorem dX6_box_16 : decode cX6_box 16 = .ok (.invokestatic 63, 3) := by decide +kernel
theorem dX6_box_19 : decode cX6_box 19 = .ok (.ifCond .eq 15, 3) := by decide +kernel
theorem dX6_box_22 : decode cX6_box 22 = .ok (.iload 4, 2) := by decide +kernel
theorem dX6_box_24 : decode cX6_box 24 = .ok (.invokestatic 63, 3) := by decide +kernel
theorem dX6_box_27 : decode cX6_box 27 = .ok (.ifCond .eq 7, 3) := by decide +kernel
theorem dX6_box_30 : decode cX6_box 30 = .ok (.iconst 1, 1) := by decide +kernel
theorem dX6_box_31 : decode cX6_box 31 = .ok (.goto 4, 3) := by decide +kernel
theorem dX6_box_34 : decode cX6_box 34 = .ok (.iconst 0, 1) := by decide +kernel
theorem dX6_box_35 : decode cX6_box 35 = .ok (.iconst 2, 1) := by decide +kernel
theorem dX6_box_36 : decode cX6_box 36 = .ok (.iload_n 1, 1) := by decide +kernel
theorem dX6_box_37 : decode cX6_box 37 = .ok (.iload_n 2, 1) := by decide +kernel
theorem dX6_box_38 : decode cX6_box 38 = .ok (.iload_n 3, 1) := by decide +kernel
theorem dX6_box_39 : decode cX6_box 39 = .ok (.iload 4, 2) := by decide +kernel
theorem dX6_box_41 : decode cX6_box 41 = .ok (.iconst 0, 1) := by decide +kernel
theorem dX6_box_42 : decode cX6_box 42 = .ok (.iconst 0, 1) := by decide +kernel
theorem dX6_box_43 : decode cX6_box 43 = .ok (.invokevirtual 106, 3) := by decide +kernel
theorem dX6_box_46 : decode cX6_box 46 = .ok (.ireturn, 1) := by decide +kernel
set_option maxRecDepth 20000 in
theorem ggX6_rule_X6_isSize : GoodIn wsX6_rule wsX6_isSize := goodIn_r _ [4, 5, 6] (by decide +kernel) (by decide +kernel)
set_option maxRecDepth 20000 in
theorem gX6_rule_X6_isSize : GoodIn wsX6_rule (va_wsS RX6 63 yX6_isSize wsX6_isSize) := goodIn_app (goodIn_of _ (by decide +kernel)) ggX6_rule_X6_isSize
set_option maxRecDepth 20000 in
theorem ggX6_rule_X6_add : GoodIn wsX6_rule wsX6_add := goodIn_r _ [10, 11, 12, 13, 14, 15, 3, 16, 17, 18, 19, 20, 21, 22, 23, 24, 25, 26, 27, 28, 29, 30, 31, 32, 33, 34, 35, 36, 37, 38, 39, 40, 41, 42, 43, 44, 45, 46, 47, 48, 49, 50, 51, 52, 53, 54, 55, 56, 57, 58, 59, 60, 61, 62, 63] (by decide +kernel) (by decide +kernel)
set_option maxRecDepth 20000 in
theorem gX6_rule_X6_add : GoodIn wsX6_rule (wsV RX6 106 RX6 yX6_add wsX6_add) := goodIn_app (goodIn_of _ (by decide +kernel)) ggX6_rule_X6_add
theorem dX6_rule_0 : decode cX6_rule 0 = .ok (.aload_n 0, 1) := by decide +kernel
theorem dX6_rule_1 : decode cX6_rule 1 = .ok (.iload_n 1, 1) := by decide +kernel
theorem dX6_rule_2 : decode cX6_rule 2 = .ok (.invokestatic 63, 3) := by decide +kernel
theorem dX6_rule_5 : decode cX6_rule 5 = .ok (.ifCond .eq 21, 3) := by decide +kernel
theorem dX6_rule_8 : decode cX6_rule 8 = .ok (.iload_n 2, 1) := by decide +kernel
theorem dX6_rule_9 : decode cX6_rule 9 = .ok (.invokestatic 63, 3) := by decide +kernel
theorem dX6_rule_12 : decode cX6_rule 12 = .ok (.ifCond .eq 14, 3) := by decide +kernel
theorem dX6_rule_15 : decode cX6_rule 15 = .ok (.iload_n 3, 1) := by decide +kernel
theorem dX6_rule_16 : decode cX6_rule 16 = .ok (.invokestatic 63, 3) := by decide +kernel
theorem dX6_rule_19 : decode cX6_rule 19 = .ok (.ifCond .eq 7, 3) := by decide +kernel
theorem dX6_rule_22 : decode cX6_rule 22 = .ok (.iconst 1, 1) := by decide +kernel
theorem dX6_rule_23 : decode cX6_rule 23 = .ok (.goto 4, 3) := by decide +kernel
theorem dX6_rule_26 : decode cX6_rule 26 = .ok (.iconst 0, 1) := by decide +kernel
theorem dX6_rule_27 : decode cX6_rule 27 = .ok (.iconst 4, 1) := by decide +kernel
theorem dX6_rule_28 : decode cX6_rule 28 = .ok (.iload_n 1, 1) := by decide +kernel
theorem dX6_rule_29 : decode cX6_rule 29 = .ok (.iload_n 2, 1) := by decide +kernel
theorem dX6_rule_30 : decode cX6_rule 30 = .ok (.iload_n 3, 1) := by decide +kernel
theorem dX6_rule_31 : decode cX6_rule 31 = .ok (.iconst 0, 1) := by decide +kernel
theorem dX6_rule_32 : decode cX6_rule 32 = .ok (.iconst 0, 1) := by decide +kernel
theorem dX6_rule_33 : decode cX6_rule 33 = .ok (.iconst 0, 1) := by decide +kernel
theorem dX6_rule_34 : decode cX6_rule 34 = .ok (.invokevirtual 106, 3) := by decide +kernel
theorem dX6_rule_37 : decode cX6_rule 37 = .ok (.ireturn, 1) := by decide +kernel
set_option maxRecDepth 20000 in
theorem ggX6_glue_X6_isGlue : GoodIn wsX6_glue wsX6_isGlue := goodIn_r _ [4, 5, 6, 3, 7, 8, 9] (by decide +kernel) (by decide +kernel)
set_option maxRecDepth 20000 in
theorem gX6_glue_X6_isGlue : GoodIn wsX6_glue (va_wsS RX6 73 yX6_isGlue wsX6_isGlue) := goodIn_app (goodIn_of _ (by decide +kernel)) ggX6_glue_X6_isGlue
set_option maxRecDepth 20000 in
theorem ggX6_glue_X6_add : GoodIn wsX6_glue wsX6_add := goodIn_r _ [13, 14, 15, 16, 17, 18, 3, 19, 20, 21, 22, 23, 24, 25, 26, 27, 28, 29, 30, 31, 32, 33, 34, 35, 36, 37, 38, 39, 40, 41, 42, 43, 44, 45, 46, 47, 48, 49, 50, 51, 52, 53, 54, 55, 56, 57, 58, 59, 60, 61, 62, 63, 64, 65, 66] (by decide +kernel) (by decide +kernel)
set_option maxRecDepth 20000 in
theorem gX6_glue_X6_add : GoodIn wsX6_glue (wsV RX6 106 RX6 yX6_add wsX6_add) := goodIn_app (goodIn_of _ (by decide +kernel)) ggX6_glue_X6_add
theorem dX6_glue_0 : decode cX6_glue 0 = .ok (.aload_n 0, 1) := by decide +kernel
theorem dX6_glue_1 : decode cX6_glue 1 = .ok (.iload_n 1, 1) := by decide +kernel
theorem dX6_glue_2 : decode cX6_glue 2 = .ok (.iload_n 2, 1) := by decide +kernel
theorem dX6_glue_3 : decode cX6_glue 3 = .ok (.iload_n 3, 1) := by decide +kernel
theorem dX6_glue_4 : decode cX6_glue 4 = .ok (.iload 4, 2) := by decide +kernel
theorem dX6_glue_6 : decode cX6_glue 6 = .ok (.invokestatic 73, 3) := by decide +kernel
theorem dX6_glue_9 : decode cX6_glue 9 = .ok (.iconst 5, 1) := by decide +kernel
theorem dX6_glue_10 : decode cX6_glue 10 = .ok (.iload_n 1, 1) := by decide +kernel
theorem dX6_glue_11 : decode cX6_glue 11 = .ok (.iconst 0, 1) := by decide +kernel
theorem dX6_glue_12 : decode cX6_glue 12 = .ok (.iconst 0, 1) := by decide +kernel
theorem dX6_glue_13 : decode cX6_glue 13 = .ok (.iload_n 2, 1) := by decide +kernel
theorem dX6_glue_14 : decode cX6_glue 14 = .ok (.iload_n 3, 1) := by decide +kernel
theorem dX6_glue_15 : decode cX6_glue 15 = .ok (.iload 4, 2) := by decide +kernel
theorem dX6_glue_17 : decode cX6_glue 17 = .ok (.invokevirtual 106, 3) := by decide +kernel
theorem dX6_glue_20 : decode cX6_glue 20 = .ok (.ireturn, 1) := by decide +kernel
set_option maxRecDepth 20000 in
theorem ggX6_kern_X6_isSize : GoodIn wsX6_kern wsX6_isSize := goodIn_r _ [4, 5, 6] (by decide +kernel) (by decide +kernel)
set_option maxRecDepth 20000 in
theorem gX6_kern_X6_isSize : GoodIn wsX6_kern (va_wsS RX6 63 yX6_isSize wsX6_isSize) := goodIn_app (goodIn_of _ (by decide +kernel)) ggX6_kern_X6_isSize
set_option maxRecDepth 20000 in
theorem ggX6_kern_X6_add : GoodIn wsX6_kern wsX6_add := goodIn_r _ [10, 11, 12, 13, 14, 15, 3, 16, 17, 18, 19, 20, 21, 22, 23, 24, 25, 26, 27, 28, 29, 30, 31, 32, 33, 34, 35, 36, 37, 38, 39, 40, 41, 42, 43, 44, 45, 46, 47, 48, 49, 50, 51, 52, 53, 54, 55, 56, 57, 58, 59, 60, 61, 62, 63] (by decide +kernel) (by decide +kernel)
set_option maxRecDepth 20000 in
theorem gX6_kern_X6_add : GoodIn wsX6_kern (wsV RX6 106 RX6 yX6_add wsX6_add) := goodIn_app (goodIn_of _ (by decide +kernel)) ggX6_kern_X6_add
theorem dX6_kern_0 : decode cX6_kern 0 = .ok (.aload_n 0, 1) := by decide +kernel
theorem dX6_kern_1 : decode cX6_kern 1 = .ok (.iload_n 1, 1) := by decide +kernel
theorem dX6_kern_2 : decode cX6_kern 2 = .ok (.invokestatic 63, 3) := by decide +kernel
theorem dX6_kern_5 : decode cX6_kern 5 = .ok (.bipush 6, 2) := by decide +kernel
theorem dX6_kern_7 : decode cX6_kern 7 = .ok (.iload_n 1, 1) := by decide +kernel
theorem dX6_kern_8 : decode cX6_kern 8 = .ok (.iconst 0, 1) := by decide +kernel
theorem dX6_kern_9 : decode cX6_kern 9 = .ok (.iconst 0, 1) := by decide +kernel
theorem dX6_kern_10 : decode cX6_kern 10 = .ok (.iconst 0, 1) := by decide +kernel
theorem dX6_kern_11 : decode cX6_kern 11 = .ok (.iconst 0, 1) := by decide +kernel
theorem dX6_kern_12 : decode cX6_kern 12 = .ok (.iconst 0, 1) := by decide +kernel
theorem dX6_kern_13 : decode cX6_kern 13 = .ok (.invokevirtual 106, 3) := by decide +kernel
theorem dX6_kern_16 : decode cX6_kern 16 = .ok (.ireturn, 1) := by decide +kernel
set_option maxRecDepth 20000 in
theorem ggX6_penalty_X6_add : GoodIn wsX6_penalty wsX6_add := goodIn_r _ [5, 6, 7, 8, 9, 10, 4, 11, 12, 13, 14, 15, 16, 17, 18, 19, 20, 21, 22, 23, 24, 25, 26, 27, 28, 29, 30, 31, 32, 33, 34, 35, 36, 37, 38, 39, 40, 41, 42, 43, 44, 45, 46, 47, 48, 49, 50, 51, 52, 53, 54, 55, 56, 57, 58] (by decide +kernel) (by decide +kernel)
set_option maxRecDepth 20000 in
theorem gX6_penalty_X6_add : GoodIn wsX6_penalty (wsV RX6 106 RX6 yX6_add wsX6_add) := goodIn_app (goodIn_of _ (by decide +kernel)) ggX6_penalty_X6_add
theorem dX6_penalty_0 : decode cX6_penalty 0 = .ok (.aload_n 0, 1) := by decide +kernel
theorem dX6_penalty_1 : decode cX6_penalty 1 = .ok (.iconst 1, 1) := by decide +kernel
theorem dX6_penalty_2 : decode cX6_penalty 2 = .ok (.bipush 7, 2) := by decide +kernel
theorem dX6_penalty_4 : decode cX6_penalty 4 = .ok (.iload_n 1, 1) := by decide +kernel
theorem dX6_penalty_5 : decode cX6_penalty 5 = .ok (.iconst 0, 1) := by decide +kernel
theorem dX6_penalty_6 : decode cX6_penalty 6 = .ok (.iconst 0, 1) := by decide +kernel
theorem dX6_penalty_7 : decode cX6_penalty 7 = .ok (.iconst 0, 1) := by decide +kernel
theorem dX6_penalty_8 : decode cX6_penalty 8 = .ok (.iconst 0, 1) := by decide +kernel
theorem dX6_penalty_9 : decode cX6_penalty 9 = .ok (.iconst 0, 1) := by decide +kernel
theorem dX6_penalty_10 : decode cX6_penalty 10 = .ok (.invokevirtual 106, 3) := by decide +kernel
theorem dX6_penalty_13 : decode cX6_penalty 13 = .ok (.ireturn, 1) := by decide +kernel
set_option maxRecDepth 20000 in
theorem ggX6_move_X6_write : GoodIn wsX6_move wsX6_write := goodIn_r _ [13, 1, 2, 3, 4, 5, 6, 7, 8, 14, 15, 16, 17, 18, 19, 20, 21, 22, 23, 24, 25, 26, 27, 28, 29, 30, 31, 32, 33, 34, 35, 36, 37, 38, 39, 40, 41, 42, 43, 44, 45] (by decide +kernel) (by decide +kernel)
set_option maxRecDepth 20000 in
theorem gX6_move_X6_write : GoodIn wsX6_move (wsV RX6 102 RX6 yX6_write wsX6_write) := goodIn_app (goodIn_of _ (by decide +kernel)) ggX6_move_X6_write
theorem dX6_move_0 : decode cX6_move 0 = .ok (.aload_n 0, 1) := by decide +kernel
theorem dX6_move_1 : decode cX6_move 1 = .ok (.iload_n 2, 1) := by decide +kernel
theorem dX6_move_2 : decode cX6_move 2 = .ok (.aload_n 0, 1) := by decide +kernel
theorem dX6_move_3 : decode cX6_move 3 = .ok (.getfield 7, 3) := by decide +kernel
theorem dX6_move_6 : decode cX6_move 6 = .ok (.iload_n 1, 1) := by decide +kernel
theorem dX6_move_7 : decode cX6_move 7 = .ok (.iaload, 1) := by decide +kernel
theorem dX6_move_8 : decode cX6_move 8 = .ok (.aload_n 0, 1) := by decide +kernel
theorem dX6_move_9 : decode cX6_move 9 = .ok (.getfield 13, 3) := by decide +kernel
theorem dX6_move_12 : decode cX6_move 12 = .ok (.iload_n 1, 1) := by decide +kernel
theorem dX6_move_13 : decode cX6_move 13 = .ok (.iaload, 1) := by decide +kernel
theorem dX6_move_14 : decode cX6_move 14 = .ok (.aload_n 0, 1) := by decide +kernel
theorem dX6_move_15 : decode cX6_move 15 = .ok (.getfield 16, 3) := by decide +kernel
theorem dX6_move_18 : decode cX6_move 18 = .ok (.iload_n 1, 1) := by decide +kernel
theorem dX6_move_19 : decode cX6_move 19 = .ok (.iaload, 1) := by decide +kernel
theorem dX6_move_20 : decode cX6_move 20 = .ok (.aload_n 0, 1) := by decide +kernel
theorem dX6_move_21 : decode cX6_move 21 = .ok (.getfield 19, 3) := by decide +kernel
theorem dX6_move_24 : decode cX6_move 24 = .ok (.iload_n 1, 1) := by decide +kernel
theorem dX6_move_25 : decode cX6_move 25 = .ok (.iaload, 1) := by decide +kernel
theorem dX6_move_26 : decode cX6_move 26 = .ok (.aload_n 0, 1) := by decide +kernel
theorem dX6_move_27 : decode cX6_move 27 = .ok (.getfield 22, 3) := by decide +kernel
theorem dX6_move_30 : decode cX6_move 30 = .ok (.iload_n 1, 1) := by decide +kernel
theorem dX6_move_31 : decode cX6_move 31 = .ok (.iaload, 1) := by decide +kernel
theorem dX6_move_32 : decode cX6_move 32 = .ok (.aload_n 0, 1) := by decide +kernel
theorem dX6_move_33 : decode cX6_move 33 = .ok (.getfield 25, 3) := by decide +kernel
theorem dX6_move_36 : decode cX6_move 36 = .ok (.iload_n 1, 1) := by decide +kernel
theorem dX6_move_37 : decode cX6_move 37 = .ok (.iaload, 1) := by decide +kernel
theorem dX6_move_38 : decode cX6_move 38 = .ok (.aload_n 0, 1) := by decide +kernel
theorem dX6_move_39 : decode cX6_move 39 = .ok (.getfield 28, 3) := by decide +kernel
theorem dX6_move_42 : decode cX6_move 42 = .ok (.iload_n 1, 1) := by decide +kernel
theorem dX6_move_43 : decode cX6_move 43 = .ok (.iaload, 1) := by decide +kernel
theorem dX6_move_44 : decode cX6_move 44 = .ok (.invokevirtual 102, 3) := by decide +kernel
theorem dX6_move_47 : decode cX6_move 47 = .ok (.aload_n 0, 1) := by decide +kernel
theorem dX6_move_48 : decode cX6_move 48 = .ok (.getfield 31, 3) := by decide +kernel
theorem dX6_move_51 : decode cX6_move 51 = .ok (.iload_n 2, 1) := by decide +kernel
theorem dX6_move_52 : decode cX6_move 52 = .ok (.aload_n 0, 1) := by decide +kernel
theorem dX6_move_53 : decode cX6_move 53 = .ok (.getfield 31, 3) := by decide +kernel
theorem dX6_move_56 : decode cX6_move 56 = .ok (.iload_n 1, 1) := by decide +kernel
theorem dX6_move_57 : decode cX6_move 57 = .ok (.laload, 1) := by decide +kernel
theorem dX6_move_58 : decode cX6_move 58 = .ok (.lastore, 1) := by decide +kernel
theorem dX6_move_59 : decode cX6_move 59 = .ok (.return_, 1) := by decide +kernel
set_option maxRecDepth 20000 in
theorem ggX6_take_X6_move : GoodIn wsX6_take wsX6_move := goodIn_r _ [6, 7, 8, 9, 10, 11, 12, 13, 14, 15, 16, 17, 5, 18, 19, 20, 21, 22, 23, 24, 25, 26, 27, 28, 29, 30, 31, 32, 33, 34, 35, 36, 37, 38, 39, 40, 41, 42, 43, 44, 45, 46, 47, 48, 49, 50] (by decide +kernel) (by decide +kernel)
set_option maxRecDepth 20000 in
theorem gX6_take_X6_move : GoodIn wsX6_take (wsV RX6 110 RX6 yX6_move wsX6_move) := goodIn_app (goodIn_of _ (by decide +kernel)) ggX6_take_X6_move
theorem dX6_take_0 : decode cX6_take 0 = .ok (.iload_n 1, 1) := by decide +kernel
theorem dX6_take_1 : decode cX6_take 1 = .ok (.istore_n 2, 1) := by decide +kernel
theorem dX6_take_2 : decode cX6_take 2 = .ok (.iload_n 2, 1) := by decide +kernel
theorem dX6_take_3 : decode cX6_take 3 = .ok (.aload_n 0, 1) := by decide +kernel
theorem dX6_take_4 : decode cX6_take 4 = .ok (.getfield 89, 3) := by decide +kernel
theorem dX6_take_7 : decode cX6_take 7 = .ok (.if_icmp .ge 17, 3) := by decide +kernel
theorem dX6_take_10 : decode cX6_take 10 = .ok (.aload_n 0, 1) := by decide +kernel
theorem dX6_take_11 : decode cX6_take 11 = .ok (.iload_n 2, 1) := by decide +kernel
theorem dX6_take_12 : decode cX6_take 12 = .ok (.iload_n 2, 1) := by decide +kernel
theorem dX6_take_13 : decode cX6_take 13 = .ok (.iload_n 1, 1) := by decide +kernel
theorem dX6_take_14 : decode cX6_take 14 = .ok (.isub, 1) := by decide +kernel
theorem dX6_take_15 : decode cX6_take 15 = .ok (.invokevirtual 110, 3) := by decide +kernel
theorem dX6_take_18 : decode cX6_take 18 = .ok (.iinc 2 1, 3) := by decide +kernel
theorem dX6_take_21 : decode cX6_take 21 = .ok (.goto (-19), 3) := by decide +kernel
theorem dX6_take_24 : decode cX6_take 24 = .ok (.aload_n 0, 1) := by decide +kernel
theorem dX6_take_25 : decode cX6_take 25 = .ok (.dup, 1) := by decide +kernel
theorem dX6_take_26 : decode cX6_take 26 = .ok (.getfield 89, 3) := by decide +kernel
theorem dX6_take_29 : decode cX6_take 29 = .ok (.iload_n 1, 1) := by decide +kernel
theorem dX6_take_30 : decode cX6_take 30 = .ok (.isub, 1) := by decide +kernel
theorem dX6_take_31 : decode cX6_take 31 = .ok (.putfield 89, 3) := by decide +kernel
theorem dX6_take_34 : decode cX6_take 34 = .ok (.return_, 1) := by decide +kernel
theorem dX6_isSolid_0 : decode cX6_isSolid 0 = .ok (.aload_n 0, 1) := by decide +kernel
theorem dX6_isSolid_1 : decode cX6_isSolid 1 = .ok (.getfield 7, 3) := by decide +kernel
theorem dX6_isSolid_4 : decode cX6_isSolid 4 = .ok (.iload_n 1, 1) := by decide +kernel
theorem dX6_isSolid_5 : decode cX6_isSolid 5 = .ok (.iaload, 1) := by decide +kernel
theorem dX6_isSolid_6 : decode cX6_isSolid 6 = .ok (.iconst 2, 1) := by decide +kernel
theorem dX6_isSolid_7 : decode cX6_isSolid 7 = .ok (.if_icmp .eq 13, 3) := by decide +kernel
theorem dX6_isSolid_10 : decode cX6_isSolid 10 = .ok (.aload_n 0, 1) := by decide +kernel
theorem dX6_isSolid_11 : decode cX6_isSolid 11 = .ok (.getfield 7, 3) := by decide +kernel
theorem dX6_isSolid_14 : decode cX6_isSolid 14 = .ok (.iload_n 1, 1) := by decide +kernel
theorem dX6_isSolid_15 : decode cX6_isSolid 15 = .ok (.iaload, 1) := by decide +kernel
theorem dX6_isSolid_16 : decode cX6_isSolid 16 = .ok (.iconst 4, 1) := by decide +kernel
theorem dX6_isSolid_17 : decode cX6_isSolid 17 = .ok (.if_icmp .ne 7, 3) := by decide +kernel
theorem dX6_isSolid_20 : decode cX6_isSolid 20 = .ok (.iconst 1, 1) := by decide +kernel
theorem dX6_isSolid_21 : decode cX6_isSolid 21 = .ok (.goto 4, 3) := by decide +kernel
theorem dX6_isSolid_24 : decode cX6_isSolid 24 = .ok (.iconst 0, 1) := by decide +kernel
theorem dX6_isSolid_25 : decode cX6_isSolid 25 = .ok (.ireturn, 1) := by decide +kernel
set_option maxRecDepth 20000 in
theorem ggX6_sums_X6_isSolid : GoodIn wsX6_sums wsX6_isSolid := goodIn_r _ [17, 8, 18, 19, 20, 21, 22, 23, 24, 25, 26, 27, 28, 29, 30, 31, 32, 33, 34, 35, 36, 37, 38, 39, 40, 41, 42, 43, 44, 45, 46, 47, 48, 49] (by decide +kernel) (by decide +kernel)
set_option maxRecDepth 20000 in
theorem gX6_sums_X6_isSolid : GoodIn wsX6_sums (wsV RX6 127 RX6 yX6_isSolid wsX6_isSolid) := goodIn_app (goodIn_of _ (by decide +kernel)) ggX6_sums_X6_isSolid
theorem dX6_sums_0 : decode cX6_sums 0 = .ok (.aload_n 0, 1) := by decide +kernel
theorem dX6_sums_1 : decode cX6_sums 1 = .ok (.lconst 0, 1) := by decide +kernel
theorem dX6_sums_2 : decode cX6_sums 2 = .ok (.putfield 114, 3) := by decide +kernel
theorem dX6_sums_5 : decode cX6_sums 5 = .ok (.aload_n 0, 1) := by decide +kernel
theorem dX6_sums_6 : decode cX6_sums 6 = .ok (.lconst 0, 1) := by decide +kernel
theorem dX6_sums_7 : decode cX6_sums 7 = .ok (.putfield 118, 3) := by decide +kernel
theorem dX6_sums_10 : decode cX6_sums 10 = .ok (.aload_n 0, 1) := by decide +kernel
theorem dX6_sums_11 : decode cX6_sums 11 = .ok (.lconst 0, 1) := by decide +kernel
theorem dX6_sums_12 : decode cX6_sums 12 = .ok (.putfield 121, 3) := by decide +kernel
theorem dX6_sums_15 : decode cX6_sums 15 = .ok (.aload_n 0, 1) := by decide +kernel
theorem dX6_sums_16 : decode cX6_sums 16 = .ok (.lconst 0, 1) := by decide +kernel
theorem dX6_sums_17 : decode cX6_sums 17 = .ok (.putfield 124, 3) := by decide +kernel
theorem dX6_sums_20 : decode cX6_sums 20 = .ok (.iconst 0, 1) := by decide +kernel
theorem dX6_sums_21 : decode cX6_sums 21 = .ok (.istore 4, 2) := by decide +kernel
theorem dX6_sums_23 : decode cX6_sums 23 = .ok (.iload 4, 2) := by decide +kernel
theorem dX6_sums_25 : decode cX6_sums 25 = .ok (.iconst 4, 1) := by decide +kernel
theorem dX6_sums_26 : decode cX6_sums 26 = .ok (.if_icmp .ge 17, 3) := by decide +kernel
theorem dX6_sums_29 : decode cX6_sums 29 = .ok (.aload_n 0, 1) := by decide +kernel
theorem dX6_sums_30 : decode cX6_sums 30 = .ok (.getfield 51, 3) := by decide +kernel
theorem dX6_sums_33 : decode cX6_sums 33 = .ok (.iload 4, 2) := by decide +kernel
theorem dX6_sums_35 : decode cX6_sums 35 = .ok (.lconst 0, 1) := by decide +kernel
theorem dX6_sums_36 : decode cX6_sums 36 = .ok (.lastore, 1) := by decide +kernel
theorem dX6_sums_37 : decode cX6_sums 37 = .ok (.iinc 4 1, 3) := by decide +kernel
theorem dX6_sums_40 : decode cX6_sums 40 = .ok (.goto (-17), 3) := by decide +kernel
theorem dX6_sums_43 : decode cX6_sums 43 = .ok (.iload_n 1, 1) := by decide +kernel
theorem dX6_sums_44 : decode cX6_sums 44 = .ok (.istore 4, 2) := by decide +kernel
theorem dX6_sums_46 : decode cX6_sums 46 = .ok (.iload 4, 2) := by decide +kernel
theorem dX6_sums_48 : decode cX6_sums 48 = .ok (.iload_n 1, 1) := by decide +kernel
theorem dX6_sums_49 : decode cX6_sums 49 = .ok (.iload_n 2, 1) := by decide +kernel
theorem dX6_sums_50 : decode cX6_sums 50 = .ok (.iadd, 1) := by decide +kernel
theorem dX6_sums_51 : decode cX6_sums 51 = .ok (.if_icmp .ge 209, 3) := by decide +kernel
theorem dX6_sums_54 : decode cX6_sums 54 = .ok (.aload_n 0, 1) := by decide +kernel
theorem dX6_sums_55 : decode cX6_sums 55 = .ok (.iload 4, 2) := by decide +kernel
theorem dX6_sums_57 : decode cX6_sums 57 = .ok (.invokevirtual 127, 3) := by decide +kernel
theorem dX6_sums_60 : decode cX6_sums 60 = .ok (.istore 5, 2) := by decide +kernel
theorem dX6_sums_62 : decode cX6_sums 62 = .ok (.aload_n 0, 1) := by decide +kernel
theorem dX6_sums_63 : decode cX6_sums 63 = .ok (.dup, 1) := by decide +kernel
theorem dX6_sums_64 : decode cX6_sums 64 = .ok (.getfield 114, 3) := by decide +kernel
theorem dX6_sums_67 : decode cX6_sums 67 = .ok (.iload 5, 2) := by decide +kernel
theorem dX6_sums_69 : decode cX6_sums 69 = .ok (.ifCond .eq 23, 3) := by decide +kernel
theorem dX6_sums_72 : decode cX6_sums 72 = .ok (.aload_n 0, 1) := by decide +kernel
theorem dX6_sums_73 : decode cX6_sums 73 = .ok (.getfield 16, 3) := by decide +kernel
theorem dX6_sums_76 : decode cX6_sums 76 = .ok (.iload 4, 2) := by decide +kernel
theorem dX6_sums_78 : decode cX6_sums 78 = .ok (.iaload, 1) := by decide +kernel
theorem dX6_sums_79 : decode cX6_sums 79 = .ok (.i2l, 1) := by decide +kernel
theorem dX6_sums_80 : decode cX6_sums 80 = .ok (.aload_n 0, 1) := by decide +kernel
theorem dX6_sums_81 : decode cX6_sums 81 = .ok (.getfield 19, 3) := by decide +kernel
theorem dX6_sums_84 : decode cX6_sums 84 = .ok (.iload 4, 2) := by decide +kernel
theorem dX6_sums_86 : decode cX6_sums 86 = .ok (.iaload, 1) := by decide +kernel
theorem dX6_sums_87 : decode cX6_sums 87 = .ok (.i2l, 1) := by decide +kernel
theorem dX6_sums_88 : decode cX6_sums 88 = .ok (.ladd, 1) := by decide +kernel
theorem dX6_sums_89 : decode cX6_sums 89 = .ok (.goto 27, 3) := by decide +kernel
theorem dX6_sums_92 : decode cX6_sums 92 = .ok (.aload_n 0, 1) := by decide +kernel
theorem dX6_sums_93 : decode cX6_sums 93 = .ok (.getfield 7, 3) := by decide +kernel
theorem dX6_sums_96 : decode cX6_sums 96 = .ok (.iload 4, 2) := by decide +kernel
theorem dX6_sums_98 : decode cX6_sums 98 = .ok (.iaload, 1) := by decide +kernel
theorem dX6_sums_99 : decode cX6_sums 99 = .ok (.bipush 7, 2) := by decide +kernel
theorem dX6_sums_101 : decode cX6_sums 101 = .ok (.if_icmp .ne 7, 3) := by decide +kernel
theorem dX6_sums_104 : decode cX6_sums 104 = .ok (.lconst 0, 1) := by decide +kernel
theorem dX6_sums_105 : decode cX6_sums 105 = .ok (.goto 11, 3) := by decide +kernel
theorem dX6_sums_108 : decode cX6_sums 108 = .ok (.aload_n 0, 1) := by decide +kernel
theorem dX6_sums_109 : decode cX6_sums 109 = .ok (.getfield 13, 3) := by decide +kernel
theorem dX6_sums_112 : decode cX6_sums 112 = .ok (.iload 4, 2) := by decide +kernel
theorem dX6_sums_114 : decode cX6_sums 114 = .ok (.iaload, 1) := by decide +kernel
theorem dX6_sums_115 : decode cX6_sums 115 = .ok (.i2l, 1) := by decide +kernel
theorem dX6_sums_116 : decode cX6_sums 116 = .ok (.ladd, 1) := by decide +kernel
theorem dX6_sums_117 : decode cX6_sums 117 = .ok (.putfield 114, 3) := by decide +kernel
theorem dX6_sums_120 : decode cX6_sums 120 = .ok (.aload_n 0, 1) := by decide +kernel
theorem dX6_sums_121 : decode cX6_sums 121 = .ok (.getfield 7, 3) := by decide +kernel
theorem dX6_sums_124 : decode cX6_sums 124 = .ok (.iload 4, 2) := by decide +kernel
theorem dX6_sums_126 : decode cX6_sums 126 = .ok (.iaload, 1) := by decide +kernel
theorem dX6_sums_127 : decode cX6_sums 127 = .ok (.iconst 5, 1) := by decide +kernel
theorem dX6_sums_128 : decode cX6_sums 128 = .ok (.if_icmp .ne 43, 3) := by decide +kernel
theorem dX6_sums_131 : decode cX6_sums 131 = .ok (.aload_n 0, 1) := by decide +kernel
theorem dX6_sums_132 : decode cX6_sums 132 = .ok (.getfield 51, 3) := by decide +kernel
theorem dX6_sums_135 : decode cX6_sums 135 = .ok (.aload_n 0, 1) := by decide +kernel
theorem dX6_sums_136 : decode cX6_sums 136 = .ok (.getfield 25, 3) := by decide +kernel
theorem dX6_sums_139 : decode cX6_sums 139 = .ok (.iload 4, 2) := by decide +kernel
theorem dX6_sums_141 : decode cX6_sums 141 = .ok (.iaload, 1) := by decide +kernel
theorem dX6_sums_142 : decode cX6_sums 142 = .ok (.dup2, 1) := by decide +kernel
theorem dX6_sums_143 : decode cX6_sums 143 = .ok (.laload, 1) := by decide +kernel
theorem dX6_sums_144 : decode cX6_sums 144 = .ok (.aload_n 0, 1) := by decide +kernel
theorem dX6_sums_145 : decode cX6_sums 145 = .ok (.getfield 22, 3) := by decide +kernel
theorem dX6_sums_148 : decode cX6_sums 148 = .ok (.iload 4, 2) := by decide +kernel
theorem dX6_sums_150 : decode cX6_sums 150 = .ok (.iaload, 1) := by decide +kernel
theorem dX6_sums_151 : decode cX6_sums 151 = .ok (.i2l, 1) := by decide +kernel
theorem dX6_sums_152 : decode cX6_sums 152 = .ok (.ladd, 1) := by decide +kernel
theorem dX6_sums_153 : decode cX6_sums 153 = .ok (.lastore, 1) := by decide +kernel
theorem dX6_sums_154 : decode cX6_sums 154 = .ok (.aload_n 0, 1) := by decide +kernel
theorem dX6_sums_155 : decode cX6_sums 155 = .ok (.dup, 1) := by decide +kernel
theorem dX6_sums_156 : decode cX6_sums 156 = .ok (.getfield 124, 3) := by decide +kernel
theorem dX6_sums_159 : decode cX6_sums 159 = .ok (.aload_n 0, 1) := by decide +kernel
theorem dX6_sums_160 : decode cX6_sums 160 = .ok (.getfield 28, 3) := by decide +kernel
theorem dX6_sums_163 : decode cX6_sums 163 = .ok (.iload 4, 2) := by decide +kernel
theorem dX6_sums_165 : decode cX6_sums 165 = .ok (.iaload, 1) := by decide +kernel
theorem dX6_sums_166 : decode cX6_sums 166 = .ok (.i2l, 1) := by decide +kernel
theorem dX6_sums_167 : decode cX6_sums 167 = .ok (.ladd, 1) := by decide +kernel
theorem dX6_sums_168 : decode cX6_sums 168 = .ok (.putfield 124, 3) := by decide +kernel
theorem dX6_sums_171 : decode cX6_sums 171 = .ok (.aload_n 0, 1) := by decide +kernel
theorem dX6_sums_172 : decode cX6_sums 172 = .ok (.getfield 13, 3) := by decide +kernel
theorem dX6_sums_175 : decode cX6_sums 175 = .ok (.iload 4, 2) := by decide +kernel
theorem dX6_sums_177 : decode cX6_sums 177 = .ok (.iaload, 1) := by decide +kernel
theorem dX6_sums_178 : decode cX6_sums 178 = .ok (.i2l, 1) := by decide +kernel
theorem dX6_sums_179 : decode cX6_sums 179 = .ok (.aload_n 0, 1) := by decide +kernel
theorem dX6_sums_180 : decode cX6_sums 180 = .ok (.getfield 7, 3) := by decide +kernel
theorem dX6_sums_183 : decode cX6_sums 183 = .ok (.iload 4, 2) := by decide +kernel
theorem dX6_sums_185 : decode cX6_sums 185 = .ok (.iaload, 1) := by decide +kernel
theorem dX6_sums_186 : decode cX6_sums 186 = .ok (.iconst 2, 1) := by decide +kernel
theorem dX6_sums_187 : decode cX6_sums 187 = .ok (.if_icmp .ne 13, 3) := by decide +kernel
theorem dX6_sums_190 : decode cX6_sums 190 = .ok (.aload_n 0, 1) := by decide +kernel
theorem dX6_sums_191 : decode cX6_sums 191 = .ok (.getfield 22, 3) := by decide +kernel
theorem dX6_sums_194 : decode cX6_sums 194 = .ok (.iload 4, 2) := by decide +kernel
theorem dX6_sums_196 : decode cX6_sums 196 = .ok (.iaload, 1) := by decide +kernel
theorem dX6_sums_197 : decode cX6_sums 197 = .ok (.goto 4, 3) := by decide +kernel
theorem dX6_sums_200 : decode cX6_sums 200 = .ok (.iconst 0, 1) := by decide +kernel
theorem dX6_sums_201 : decode cX6_sums 201 = .ok (.i2l, 1) := by decide +kernel
theorem dX6_sums_202 : decode cX6_sums 202 = .ok (.ladd, 1) := by decide +kernel
theorem dX6_sums_203 : decode cX6_sums 203 = .ok (.lstore 6, 2) := by decide +kernel
theorem dX6_sums_205 : decode cX6_sums 205 = .ok (.aload_n 0, 1) := by decide +kernel
theorem dX6_sums_206 : decode cX6_sums 206 = .ok (.iload 5, 2) := by decide +kernel
theorem dX6_sums_208 : decode cX6_sums 208 = .ok (.ifCond .eq 18, 3) := by decide +kernel
theorem dX6_sums_211 : decode cX6_sums 211 = .ok (.lload 6, 2) := by decide +kernel
theorem dX6_sums_213 : decode cX6_sums 213 = .ok (.aload_n 0, 1) := by decide +kernel
theorem dX6_sums_214 : decode cX6_sums 214 = .ok (.getfield 121, 3) := by decide +kernel
theorem dX6_sums_217 : decode cX6_sums 217 = .ok (.lcmp, 1) := by decide +kernel
theorem dX6_sums_218 : decode cX6_sums 218 = .ok (.ifCond .le 8, 3) := by decide +kernel
theorem dX6_sums_221 : decode cX6_sums 221 = .ok (.lload 6, 2) := by decide +kernel
theorem dX6_sums_223 : decode cX6_sums 223 = .ok (.goto 7, 3) := by decide +kernel
theorem dX6_sums_226 : decode cX6_sums 226 = .ok (.aload_n 0, 1) := by decide +kernel
theorem dX6_sums_227 : decode cX6_sums 227 = .ok (.getfield 121, 3) := by decide +kernel
theorem dX6_sums_230 : decode cX6_sums 230 = .ok (.putfield 121, 3) := by decide +kernel
theorem dX6_sums_233 : decode cX6_sums 233 = .ok (.aload_n 0, 1) := by decide +kernel
theorem dX6_sums_234 : decode cX6_sums 234 = .ok (.iload 5, 2) := by decide +kernel
theorem dX6_sums_236 : decode cX6_sums 236 = .ok (.ifCond .eq 14, 3) := by decide +kernel
theorem dX6_sums_239 : decode cX6_sums 239 = .ok (.aload_n 0, 1) := by decide +kernel
theorem dX6_sums_240 : decode cX6_sums 240 = .ok (.getfield 19, 3) := by decide +kernel
theorem dX6_sums_243 : decode cX6_sums 243 = .ok (.iload 4, 2) := by decide +kernel
theorem dX6_sums_245 : decode cX6_sums 245 = .ok (.iaload, 1) := by decide +kernel
theorem dX6_sums_246 : decode cX6_sums 246 = .ok (.i2l, 1) := by decide +kernel
theorem dX6_sums_247 : decode cX6_sums 247 = .ok (.goto 4, 3) := by decide +kernel
theorem dX6_sums_250 : decode cX6_sums 250 = .ok (.lconst 0, 1) := by decide +kernel
theorem dX6_sums_251 : decode cX6_sums 251 = .ok (.putfield 118, 3) := by decide +kernel
theorem dX6_sums_254 : decode cX6_sums 254 = .ok (.iinc 4 1, 3) := by decide +kernel
theorem dX6_sums_257 : decode cX6_sums 257 = .ok (.goto (-211), 3) := by decide +kernel
theorem dX6_sums_260 : decode cX6_sums 260 = .ok (.aload_n 0, 1) := by decide +kernel
theorem dX6_sums_261 : decode cX6_sums 261 = .ok (.dup, 1) := by decide +kernel
theorem dX6_sums_262 : decode cX6_sums 262 = .ok (.getfield 114, 3) := by decide +kernel
theorem dX6_sums_265 : decode cX6_sums 265 = .ok (.aload_n 0, 1) := by decide +kernel
theorem dX6_sums_266 : decode cX6_sums 266 = .ok (.getfield 118, 3) := by decide +kernel
theorem dX6_sums_269 : decode cX6_sums 269 = .ok (.lsub, 1) := by decide +kernel
theorem dX6_sums_270 : decode cX6_sums 270 = .ok (.putfield 114, 3) := by decide +kernel
theorem dX6_sums_273 : decode cX6_sums 273 = .ok (.aload_n 0, 1) := by decide +kernel
theorem dX6_sums_274 : decode cX6_sums 274 = .ok (.getfield 118, 3) := by decide +kernel
theorem dX6_sums_277 : decode cX6_sums 277 = .ok (.iload_n 3, 1) := by decide +kernel
theorem dX6_sums_278 : decode cX6_sums 278 = .ok (.i2l, 1) := by decide +kernel
theorem dX6_sums_279 : decode cX6_sums 279 = .ok (.lcmp, 1) := by decide +kernel
theorem dX6_sums_280 : decode cX6_sums 280 = .ok (.ifCond .le 25, 3) := by decide +kernel
theorem dX6_sums_283 : decode cX6_sums 283 = .ok (.aload_n 0, 1) := by decide +kernel
theorem dX6_sums_284 : decode cX6_sums 284 = .ok (.dup, 1) := by decide +kernel
theorem dX6_sums_285 : decode cX6_sums 285 = .ok (.getfield 114, 3) := by decide +kernel
theorem dX6_sums_288 : decode cX6_sums 288 = .ok (.aload_n 0, 1) := by decide +kernel
theorem dX6_sums_289 : decode cX6_sums 289 = .ok (.getfield 118, 3) := by decide +kernel
theorem dX6_sums_292 : decode cX6_sums 292 = .ok (.iload_n 3, 1) := by decide +kernel
theorem dX6_sums_293 : decode cX6_sums 293 = .ok (.i2l, 1) := by decide +kernel
theorem dX6_sums_294 : decode cX6_sums 294 = .ok (.lsub, 1) := by decide +kernel
theorem dX6_sums_295 : decode cX6_sums 295 = .ok (.ladd, 1) := by decide +kernel
theorem dX6_sums_296 : decode cX6_sums 296 = .ok (.putfield 114, 3) := by decide +kernel
theorem dX6_sums_299 : decode cX6_sums 299 = .ok (.aload_n 0, 1) := by decide +kernel
theorem dX6_sums_300 : decode cX6_sums 300 = .ok (.iload_n 3, 1) := by decide +kernel
theorem dX6_sums_301 : decode cX6_sums 301 = .ok (.i2l, 1) := by decide +kernel
theorem dX6_sums_302 : decode cX6_sums 302 = .ok (.putfield 118, 3) := by decide +kernel
theorem dX6_sums_305 : decode cX6_sums 305 = .ok (.return_, 1) := by decide +kernel
theorem dX6_badness_0 : decode cX6_badness 0 = .ok (.lload_n 0, 1) := by decide +kernel
theorem dX6_badness_1 : decode cX6_badness 1 = .ok (.lconst 0, 1) := by decide +kernel
theorem dX6_badness_2 : decode cX6_badness 2 = .ok (.lcmp, 1) := by decide +kernel
theorem dX6_badness_3 : decode cX6_badness 3 = .ok (.ifCond .eq 9, 3) := by decide +kernel
theorem dX6_badness_6 : decode cX6_badness 6 = .ok (.lload_n 2, 1) := by decide +kernel
theorem dX6_badness_7 : decode cX6_badness 7 = .ok (.lconst 0, 1) := by decide +kernel
theorem dX6_badness_8 : decode cX6_badness 8 = .ok (.lcmp, 1) := by decide +kernel
theorem dX6_badness_9 : decode cX6_badness 9 = .ok (.ifCond .ne 17, 3) := by decide +kernel
theorem dX6_badness_12 : decode cX6_badness 12 = .ok (.lload_n 0, 1) := by decide +kernel
theorem dX6_badness_13 : decode cX6_badness 13 = .ok (.lconst 0, 1) := by decide +kernel
theorem dX6_badness_14 : decode cX6_badness 14 = .ok (.lcmp, 1) := by decide +kernel
theorem dX6_badness_15 : decode cX6_badness 15 = .ok (.ifCond .ne 7, 3) := by decide +kernel
theorem dX6_badness_18 : decode cX6_badness 18 = .ok (.iconst 0, 1) := by decide +kernel
theorem dX6_badness_19 : decode cX6_badness 19 = .ok (.goto 6, 3) := by decide +kernel
theorem dX6_badness_22 : decode cX6_badness 22 = .ok (.sipush 10000, 3) := by decide +kernel
theorem dX6_badness_25 : decode cX6_badness 25 = .ok (.ireturn, 1) := by decide +kernel
theorem dX6_badness_26 : decode cX6_badness 26 = .ok (.ldc2_w 130, 3) := by decide +kernel
theorem dX6_badness_29 : decode cX6_badness 29 = .ok (.lload_n 0, 1) := by decide +kernel
theorem dX6_badness_30 : decode cX6_badness 30 = .ok (.lmul, 1) := by decide +kernel
theorem dX6_badness_31 : decode cX6_badness 31 = .ok (.lload_n 2, 1) := by decide +kernel
theorem dX6_badness_32 : decode cX6_badness 32 = .ok (.ldiv, 1) := by decide +kernel
theorem dX6_badness_33 : decode cX6_badness 33 = .ok (.lstore 4, 2) := by decide +kernel
theorem dX6_badness_35 : decode cX6_badness 35 = .ok (.lload 4, 2) := by decide +kernel
theorem dX6_badness_37 : decode cX6_badness 37 = .ok (.ldc2_w 132, 3) := by decide +kernel
theorem dX6_badness_40 : decode cX6_badness 40 = .ok (.lcmp, 1) := by decide +kernel
theorem dX6_badness_41 : decode cX6_badness 41 = .ok (.ifCond .le 9, 3) := by decide +kernel
theorem dX6_badness_44 : decode cX6_badness 44 = .ok (.sipush 10000, 3) := by decide +kernel
theorem dX6_badness_47 : decode cX6_badness 47 = .ok (.goto 20, 3) := by decide +kernel
theorem dX6_badness_50 : decode cX6_badness 50 = .ok (.lload 4, 2) := by decide +kernel
theorem dX6_badness_52 : decode cX6_badness 52 = .ok (.lload 4, 2) := by decide +kernel
theorem dX6_badness_54 : decode cX6_badness 54 = .ok (.lmul, 1) := by decide +kernel
theorem dX6_badness_55 : decode cX6_badness 55 = .ok (.lload 4, 2) := by decide +kernel
theorem dX6_badness_57 : decode cX6_badness 57 = .ok (.lmul, 1) := by decide +kernel
theorem dX6_badness_58 : decode cX6_badness 58 = .ok (.ldc2_w 134, 3) := by decide +kernel
theorem dX6_badness_61 : decode cX6_badness 61 = .ok (.ladd, 1) := by decide +kernel
theorem dX6_badness_62 : decode cX6_badness 62 = .ok (.ldc2_w 136, 3) := by decide +kernel
theorem dX6_badness_65 : decode cX6_badness 65 = .ok (.ldiv, 1) := by decide +kernel
theorem dX6_badness_66 : decode cX6_badness 66 = .ok (.l2i, 1) := by decide +kernel
theorem dX6_badness_67 : decode cX6_badness 67 = .ok (.ireturn, 1) := by decide +kernel
set_option maxRecDepth 20000 in
theorem ggX6_weight_X6_badness : GoodIn wsX6_weight wsX6_badness := goodIn_r _ [8, 9, 10, 11, 12] (by decide +kernel) (by decide +kernel)
set_option maxRecDepth 20000 in
theorem gX6_weight_X6_badness : GoodIn wsX6_weight (va_wsS RX6 141 yX6_badness wsX6_badness) := goodIn_app (goodIn_of _ (by decide +kernel)) ggX6_weight_X6_badness
theorem dX6_weight_0 : decode cX6_weight 0 = .ok (.aload_n 0, 1) := by decide +kernel
theorem dX6_weight_1 : decode cX6_weight 1 = .ok (.getfield 114, 3) := by decide +kernel
theorem dX6_weight_4 : decode cX6_weight 4 = .ok (.aload_n 0, 1) := by decide +kernel
theorem dX6_weight_5 : decode cX6_weight 5 = .ok (.getfield 138, 3) := by decide +kernel
theorem dX6_weight_8 : decode cX6_weight 8 = .ok (.i2l, 1) := by decide +kernel
theorem dX6_weight_9 : decode cX6_weight 9 = .ok (.lcmp, 1) := by decide +kernel
theorem dX6_weight_10 : decode cX6_weight 10 = .ok (.ifCond .eq 41, 3) := by decide +kernel
theorem dX6_weight_13 : decode cX6_weight 13 = .ok (.aload_n 0, 1) := by decide +kernel
theorem dX6_weight_14 : decode cX6_weight 14 = .ok (.getfield 114, 3) := by decide +kernel
theorem dX6_weight_17 : decode cX6_weight 17 = .ok (.aload_n 0, 1) := by decide +kernel
theorem dX6_weight_18 : decode cX6_weight 18 = .ok (.getfield 138, 3) := by decide +kernel
theorem dX6_weight_21 : decode cX6_weight 21 = .ok (.i2l, 1) := by decide +kernel
theorem dX6_weight_22 : decode cX6_weight 22 = .ok (.lcmp, 1) := by decide +kernel
theorem dX6_weight_23 : decode cX6_weight 23 = .ok (.ifCond .ge 30, 3) := by decide +kernel
theorem dX6_weight_26 : decode cX6_weight 26 = .ok (.aload_n 0, 1) := by decide +kernel
theorem dX6_weight_27 : decode cX6_weight 27 = .ok (.getfield 51, 3) := by decide +kernel
theorem dX6_weight_30 : decode cX6_weight 30 = .ok (.iconst 1, 1) := by decide +kernel
theorem dX6_weight_31 : decode cX6_weight 31 = .ok (.laload, 1) := by decide +kernel
theorem dX6_weight_32 : decode cX6_weight 32 = .ok (.aload_n 0, 1) := by decide +kernel
theorem dX6_weight_33 : decode cX6_weight 33 = .ok (.getfield 51, 3) := by decide +kernel
theorem dX6_weight_36 : decode cX6_weight 36 = .ok (.iconst 2, 1) := by decide +kernel
theorem dX6_weight_37 : decode cX6_weight 37 = .ok (.laload, 1) := by decide +kernel
theorem dX6_weight_38 : decode cX6_weight 38 = .ok (.ladd, 1) := by decide +kernel
theorem dX6_weight_39 : decode cX6_weight 39 = .ok (.aload_n 0, 1) := by decide +kernel
theorem dX6_weight_40 : decode cX6_weight 40 = .ok (.getfield 51, 3) := by decide +kernel
theorem dX6_weight_43 : decode cX6_weight 43 = .ok (.iconst 3, 1) := by decide +kernel
theorem dX6_weight_44 : decode cX6_weight 44 = .ok (.laload, 1) := by decide +kernel
theorem dX6_weight_45 : decode cX6_weight 45 = .ok (.ladd, 1) := by decide +kernel
theorem dX6_weight_46 : decode cX6_weight 46 = .ok (.lconst 0, 1) := by decide +kernel
theorem dX6_weight_47 : decode cX6_weight 47 = .ok (.lcmp, 1) := by decide +kernel
theorem dX6_weight_48 : decode cX6_weight 48 = .ok (.ifCond .le 5, 3) := by decide +kernel
theorem dX6_weight_51 : decode cX6_weight 51 = .ok (.iconst 0, 1) := by decide +kernel
theorem dX6_weight_52 : decode cX6_weight 52 = .ok (.ireturn, 1) := by decide +kernel
theorem dX6_weight_53 : decode cX6_weight 53 = .ok (.aload_n 0, 1) := by decide +kernel
theorem dX6_weight_54 : decode cX6_weight 54 = .ok (.getfield 114, 3) := by decide +kernel
theorem dX6_weight_57 : decode cX6_weight 57 = .ok (.aload_n 0, 1) := by decide +kernel
theorem dX6_weight_58 : decode cX6_weight 58 = .ok (.getfield 138, 3) := by decide +kernel
theorem dX6_weight_61 : decode cX6_weight 61 = .ok (.i2l, 1) := by decide +kernel
theorem dX6_weight_62 : decode cX6_weight 62 = .ok (.lcmp, 1) := by decide +kernel
theorem dX6_weight_63 : decode cX6_weight 63 = .ok (.ifCond .ge 23, 3) := by decide +kernel
theorem dX6_weight_66 : decode cX6_weight 66 = .ok (.aload_n 0, 1) := by decide +kernel
theorem dX6_weight_67 : decode cX6_weight 67 = .ok (.getfield 138, 3) := by decide +kernel
theorem dX6_weight_70 : decode cX6_weight 70 = .ok (.i2l, 1) := by decide +kernel
theorem dX6_weight_71 : decode cX6_weight 71 = .ok (.aload_n 0, 1) := by decide +kernel
theorem dX6_weight_72 : decode cX6_weight 72 = .ok (.getfield 114, 3) := by decide +kernel
theorem dX6_weight_75 : decode cX6_weight 75 = .ok (.lsub, 1) := by decide +kernel
theorem dX6_weight_76 : decode cX6_weight 76 = .ok (.aload_n 0, 1) := by decide +kernel
theorem dX6_weight_77 : decode cX6_weight 77 = .ok (.getfield 51, 3) := by decide +kernel
theorem dX6_weight_80 : decode cX6_weight 80 = .ok (.iconst 0, 1) := by decide +kernel
theorem dX6_weight_81 : decode cX6_weight 81 = .ok (.laload, 1) := by decide +kernel
theorem dX6_weight_82 : decode cX6_weight 82 = .ok (.invokestatic 141, 3) := by decide +kernel
theorem dX6_weight_85 : decode cX6_weight 85 = .ok (.ireturn, 1) := by decide +kernel
theorem dX6_weight_86 : decode cX6_weight 86 = .ok (.aload_n 0, 1) := by decide +kernel
theorem dX6_weight_87 : decode cX6_weight 87 = .ok (.getfield 114, 3) := by decide +kernel
theorem dX6_weight_90 : decode cX6_weight 90 = .ok (.aload_n 0, 1) := by decide +kernel
theorem dX6_weight_91 : decode cX6_weight 91 = .ok (.getfield 138, 3) := by decide +kernel
theorem dX6_weight_94 : decode cX6_weight 94 = .ok (.i2l, 1) := by decide +kernel
theorem dX6_weight_95 : decode cX6_weight 95 = .ok (.lsub, 1) := by decide +kernel
theorem dX6_weight_96 : decode cX6_weight 96 = .ok (.aload_n 0, 1) := by decide +kernel
theorem dX6_weight_97 : decode cX6_weight 97 = .ok (.getfield 124, 3) := by decide +kernel
theorem dX6_weight_100 : decode cX6_weight 100 = .ok (.lcmp, 1) := by decide +kernel
theorem dX6_weight_101 : decode cX6_weight 101 = .ok (.ifCond .le 7, 3) := by decide +kernel
theorem dX6_weight_104 : decode cX6_weight 104 = .ok (.iconst (-1), 1) := by decide +kernel
theorem dX6_weight_105 : decode cX6_weight 105 = .ok (.goto 20, 3) := by decide +kernel
theorem dX6_weight_108 : decode cX6_weight 108 = .ok (.aload_n 0, 1) := by decide +kernel
theorem dX6_weight_109 : decode cX6_weight 109 = .ok (.getfield 114, 3) := by decide +kernel
theorem dX6_weight_112 : decode cX6_weight 112 = .ok (.aload_n 0, 1) := by decide +kernel
theorem dX6_weight_113 : decode cX6_weight 113 = .ok (.getfield 138, 3) := by decide +kernel
theorem dX6_weight_116 : decode cX6_weight 116 = .ok (.i2l, 1) := by decide +kernel
theorem dX6_weight_117 : decode cX6_weight 117 = .ok (.lsub, 1) := by decide +kernel
theorem dX6_weight_118 : decode cX6_weight 118 = .ok (.aload_n 0, 1) := by decide +kernel
theorem dX6_weight_119 : decode cX6_weight 119 = .ok (.getfield 124, 3) := by decide +kernel
theorem dX6_weight_122 : decode cX6_weight 122 = .ok (.invokestatic 141, 3) := by decide +kernel
theorem dX6_weight_125 : decode cX6_weight 125 = .ok (.ireturn, 1) := by decide +kernel
theorem dX6_near_0 : decode cX6_near 0 = .ok (.lload_n 0, 1) := by decide +kernel
theorem dX6_near_1 : decode cX6_near 1 = .ok (.lconst 0, 1) := by decide +kernel
theorem dX6_near_2 : decode cX6_near 2 = .ok (.lcmp, 1) := by decide +kernel
theorem dX6_near_3 : decode cX6_near 3 = .ok (.ifCond .ge 8, 3) := by decide +kernel
theorem dX6_near_6 : decode cX6_near 6 = .ok (.lload_n 0, 1) := by decide +kernel
theorem dX6_near_7 : decode cX6_near 7 = .ok (.lneg, 1) := by decide +kernel
theorem dX6_near_8 : decode cX6_near 8 = .ok (.goto 4, 3) := by decide +kernel
theorem dX6_near_11 : decode cX6_near 11 = .ok (.lload_n 0, 1) := by decide +kernel
theorem dX6_near_12 : decode cX6_near 12 = .ok (.lstore 4, 2) := by decide +kernel
theorem dX6_near_14 : decode cX6_near 14 = .ok (.ldc2_w 145, 3) := by decide +kernel
theorem dX6_near_17 : decode cX6_near 17 = .ok (.lload 4, 2) := by decide +kernel
theorem dX6_near_19 : decode cX6_near 19 = .ok (.lmul, 1) := by decide +kernel
theorem dX6_near_20 : decode cX6_near 20 = .ok (.lload_n 2, 1) := by decide +kernel
theorem dX6_near_21 : decode cX6_near 21 = .ok (.ladd, 1) := by decide +kernel
theorem dX6_near_22 : decode cX6_near 22 = .ok (.ldc2_w 145, 3) := by decide +kernel
theorem dX6_near_25 : decode cX6_near 25 = .ok (.lload_n 2, 1) := by decide +kernel
theorem dX6_near_26 : decode cX6_near 26 = .ok (.lmul, 1) := by decide +kernel
theorem dX6_near_27 : decode cX6_near 27 = .ok (.ldiv, 1) := by decide +kernel
theorem dX6_near_28 : decode cX6_near 28 = .ok (.lstore 4, 2) := by decide +kernel
theorem dX6_near_30 : decode cX6_near 30 = .ok (.lload_n 0, 1) := by decide +kernel
theorem dX6_near_31 : decode cX6_near 31 = .ok (.lconst 0, 1) := by decide +kernel
theorem dX6_near_32 : decode cX6_near 32 = .ok (.lcmp, 1) := by decide +kernel
theorem dX6_near_33 : decode cX6_near 33 = .ok (.ifCond .ge 9, 3) := by decide +kernel
theorem dX6_near_36 : decode cX6_near 36 = .ok (.lload 4, 2) := by decide +kernel
theorem dX6_near_38 : decode cX6_near 38 = .ok (.lneg, 1) := by decide +kernel
theorem dX6_near_39 : decode cX6_near 39 = .ok (.goto 5, 3) := by decide +kernel
theorem dX6_near_42 : decode cX6_near 42 = .ok (.lload 4, 2) := by decide +kernel
theorem dX6_near_44 : decode cX6_near 44 = .ok (.lreturn, 1) := by decide +kernel
set_option maxRecDepth 20000 in
theorem ggX6_share_X6_near : GoodIn wsX6_share wsX6_near := goodIn_r _ [11, 12] (by decide +kernel) (by decide +kernel)
set_option maxRecDepth 20000 in
theorem gX6_share_X6_near : GoodIn wsX6_share (va_wsS RX6 147 yX6_near wsX6_near) := goodIn_app (goodIn_of _ (by decide +kernel)) ggX6_share_X6_near
theorem dX6_share_0 : decode cX6_share 0 = .ok (.iconst 3, 1) := by decide +kernel
theorem dX6_share_1 : decode cX6_share 1 = .ok (.istore 5, 2) := by decide +kernel
theorem dX6_share_3 : decode cX6_share 3 = .ok (.iload 5, 2) := by decide +kernel
theorem dX6_share_5 : decode cX6_share 5 = .ok (.ifCond .le 21, 3) := by decide +kernel
theorem dX6_share_8 : decode cX6_share 8 = .ok (.aload_n 0, 1) := by decide +kernel
theorem dX6_share_9 : decode cX6_share 9 = .ok (.getfield 51, 3) := by decide +kernel
theorem dX6_share_12 : decode cX6_share 12 = .ok (.iload 5, 2) := by decide +kernel
theorem dX6_share_14 : decode cX6_share 14 = .ok (.laload, 1) := by decide +kernel
theorem dX6_share_15 : decode cX6_share 15 = .ok (.lconst 0, 1) := by decide +kernel
theorem dX6_share_16 : decode cX6_share 16 = .ok (.lcmp, 1) := by decide +kernel
theorem dX6_share_17 : decode cX6_share 17 = .ok (.ifCond .ne 9, 3) := by decide +kernel
theorem dX6_share_20 : decode cX6_share 20 = .ok (.iinc 5 (-1), 3) := by decide +kernel
theorem dX6_share_23 : decode cX6_share 23 = .ok (.goto (-20), 3) := by decide +kernel
theorem dX6_share_26 : decode cX6_share 26 = .ok (.lload_n 3, 1) := by decide +kernel
theorem dX6_share_27 : decode cX6_share 27 = .ok (.lconst 0, 1) := by decide +kernel
theorem dX6_share_28 : decode cX6_share 28 = .ok (.lcmp, 1) := by decide +kernel
theorem dX6_share_29 : decode cX6_share 29 = .ok (.ifCond .le 7, 3) := by decide +kernel
theorem dX6_share_32 : decode cX6_share 32 = .ok (.iconst 1, 1) := by decide +kernel
theorem dX6_share_33 : decode cX6_share 33 = .ok (.goto 4, 3) := by decide +kernel
theorem dX6_share_36 : decode cX6_share 36 = .ok (.iconst 0, 1) := by decide +kernel
theorem dX6_share_37 : decode cX6_share 37 = .ok (.istore 6, 2) := by decide +kernel
theorem dX6_share_39 : decode cX6_share 39 = .ok (.iload 6, 2) := by decide +kernel
theorem dX6_share_41 : decode cX6_share 41 = .ok (.ifCond .eq 13, 3) := by decide +kernel
theorem dX6_share_44 : decode cX6_share 44 = .ok (.aload_n 0, 1) := by decide +kernel
theorem dX6_share_45 : decode cX6_share 45 = .ok (.getfield 51, 3) := by decide +kernel
theorem dX6_share_48 : decode cX6_share 48 = .ok (.iload 5, 2) := by decide +kernel
theorem dX6_share_50 : decode cX6_share 50 = .ok (.laload, 1) := by decide +kernel
theorem dX6_share_51 : decode cX6_share 51 = .ok (.goto 7, 3) := by decide +kernel
theorem dX6_share_54 : decode cX6_share 54 = .ok (.aload_n 0, 1) := by decide +kernel
theorem dX6_share_55 : decode cX6_share 55 = .ok (.getfield 124, 3) := by decide +kernel
theorem dX6_share_58 : decode cX6_share 58 = .ok (.lstore 7, 2) := by decide +kernel
theorem dX6_share_60 : decode cX6_share 60 = .ok (.iload 6, 2) := by decide +kernel
theorem dX6_share_62 : decode cX6_share 62 = .ok (.ifCond .ne 21, 3) := by decide +kernel
theorem dX6_share_65 : decode cX6_share 65 = .ok (.lload_n 3, 1) := by decide +kernel
theorem dX6_share_66 : decode cX6_share 66 = .ok (.aload_n 0, 1) := by decide +kernel
theorem dX6_share_67 : decode cX6_share 67 = .ok (.getfield 124, 3) := by decide +kernel
theorem dX6_share_70 : decode cX6_share 70 = .ok (.lneg, 1) := by decide +kernel
theorem dX6_share_71 : decode cX6_share 71 = .ok (.lcmp, 1) := by decide +kernel
theorem dX6_share_72 : decode cX6_share 72 = .ok (.ifCond .ge 11, 3) := by decide +kernel
theorem dX6_share_75 : decode cX6_share 75 = .ok (.aload_n 0, 1) := by decide +kernel
theorem dX6_share_76 : decode cX6_share 76 = .ok (.getfield 124, 3) := by decide +kernel
theorem dX6_share_79 : decode cX6_share 79 = .ok (.lneg, 1) := by decide +kernel
theorem dX6_share_80 : decode cX6_share 80 = .ok (.goto 4, 3) := by decide +kernel
theorem dX6_share_83 : decode cX6_share 83 = .ok (.lload_n 3, 1) := by decide +kernel
theorem dX6_share_84 : decode cX6_share 84 = .ok (.lstore 9, 2) := by decide +kernel
theorem dX6_share_86 : decode cX6_share 86 = .ok (.lconst 0, 1) := by decide +kernel
theorem dX6_share_87 : decode cX6_share 87 = .ok (.lstore 11, 2) := by decide +kernel
theorem dX6_share_89 : decode cX6_share 89 = .ok (.iload_n 1, 1) := by decide +kernel
theorem dX6_share_90 : decode cX6_share 90 = .ok (.istore 13, 2) := by decide +kernel
theorem dX6_share_92 : decode cX6_share 92 = .ok (.iload 13, 2) := by decide +kernel
theorem dX6_share_94 : decode cX6_share 94 = .ok (.iload_n 1, 1) := by decide +kernel
theorem dX6_share_95 : decode cX6_share 95 = .ok (.iload_n 2, 1) := by decide +kernel
theorem dX6_share_96 : decode cX6_share 96 = .ok (.iadd, 1) := by decide +kernel
theorem dX6_share_97 : decode cX6_share 97 = .ok (.if_icmp .ge 129, 3) := by decide +kernel
theorem dX6_share_100 : decode cX6_share 100 = .ok (.aload_n 0, 1) := by decide +kernel
theorem dX6_share_101 : decode cX6_share 101 = .ok (.getfield 7, 3) := by decide +kernel
theorem dX6_share_104 : decode cX6_share 104 = .ok (.iload 13, 2) := by decide +kernel
theorem dX6_share_106 : decode cX6_share 106 = .ok (.iaload, 1) := by decide +kernel
theorem dX6_share_107 : decode cX6_share 107 = .ok (.iconst 5, 1) := by decide +kernel
theorem dX6_share_108 : decode cX6_share 108 = .ok (.if_icmp .ne 31, 3) := by decide +kernel
theorem dX6_share_111 : decode cX6_share 111 = .ok (.lload 7, 2) := by decide +kernel
theorem dX6_share_113 : decode cX6_share 113 = .ok (.lconst 0, 1) := by decide +kernel
theorem dX6_share_114 : decode cX6_share 114 = .ok (.lcmp, 1) := by decide +kernel
theorem dX6_share_115 : decode cX6_share 115 = .ok (.ifCond .le 24, 3) := by decide +kernel
theorem dX6_share_118 : decode cX6_share 118 = .ok (.iload 6, 2) := by decide +kernel
theorem dX6_share_120 : decode cX6_share 120 = .ok (.ifCond .eq 15, 3) := by decide +kernel
theorem dX6_share_123 : decode cX6_share 123 = .ok (.aload_n 0, 1) := by decide +kernel
theorem dX6_share_124 : decode cX6_share 124 = .ok (.getfield 25, 3) := by decide +kernel
theorem dX6_share_127 : decode cX6_share 127 = .ok (.iload 13, 2) := by decide +kernel
theorem dX6_share_129 : decode cX6_share 129 = .ok (.iaload, 1) := by decide +kernel
theorem dX6_share_130 : decode cX6_share 130 = .ok (.iload 5, 2) := by decide +kernel
theorem dX6_share_132 : decode cX6_share 132 = .ok (.if_icmp .ne 7, 3) := by decide +kernel
theorem dX6_share_135 : decode cX6_share 135 = .ok (.iconst 1, 1) := by decide +kernel
theorem dX6_share_136 : decode cX6_share 136 = .ok (.goto 4, 3) := by decide +kernel
theorem dX6_share_139 : decode cX6_share 139 = .ok (.iconst 0, 1) := by decide +kernel
theorem dX6_share_140 : decode cX6_share 140 = .ok (.istore 14, 2) := by decide +kernel
theorem dX6_share_142 : decode cX6_share 142 = .ok (.lload 11, 2) := by decide +kernel
theorem dX6_share_144 : decode cX6_share 144 = .ok (.iload 14, 2) := by decide +kernel
theorem dX6_share_146 : decode cX6_share 146 = .ok (.ifCond .eq 28, 3) := by decide +kernel
theorem dX6_share_149 : decode cX6_share 149 = .ok (.iload 6, 2) := by decide +kernel
theorem dX6_share_151 : decode cX6_share 151 = .ok (.ifCond .eq 13, 3) := by decide +kernel
theorem dX6_share_154 : decode cX6_share 154 = .ok (.aload_n 0, 1) := by decide +kernel
theorem dX6_share_155 : decode cX6_share 155 = .ok (.getfield 22, 3) := by decide +kernel
theorem dX6_share_158 : decode cX6_share 158 = .ok (.iload 13, 2) := by decide +kernel
theorem dX6_share_160 : decode cX6_share 160 = .ok (.iaload, 1) := by decide +kernel
theorem dX6_share_161 : decode cX6_share 161 = .ok (.goto 14, 3) := by decide +kernel
theorem dX6_share_164 : decode cX6_share 164 = .ok (.aload_n 0, 1) := by decide +kernel
theorem dX6_share_165 : decode cX6_share 165 = .ok (.getfield 28, 3) := by decide +kernel
theorem dX6_share_168 : decode cX6_share 168 = .ok (.iload 13, 2) := by decide +kernel
theorem dX6_share_170 : decode cX6_share 170 = .ok (.iaload, 1) := by decide +kernel
theorem dX6_share_171 : decode cX6_share 171 = .ok (.goto 4, 3) := by decide +kernel
theorem dX6_share_174 : decode cX6_share 174 = .ok (.iconst 0, 1) := by decide +kernel
theorem dX6_share_175 : decode cX6_share 175 = .ok (.i2l, 1) := by decide +kernel
theorem dX6_share_176 : decode cX6_share 176 = .ok (.ladd, 1) := by decide +kernel
theorem dX6_share_177 : decode cX6_share 177 = .ok (.lstore 15, 2) := by decide +kernel
theorem dX6_share_179 : decode cX6_share 179 = .ok (.aload_n 0, 1) := by decide +kernel
theorem dX6_share_180 : decode cX6_share 180 = .ok (.getfield 31, 3) := by decide +kernel
theorem dX6_share_183 : decode cX6_share 183 = .ok (.iload 13, 2) := by decide +kernel
theorem dX6_share_185 : decode cX6_share 185 = .ok (.iload 14, 2) := by decide +kernel
theorem dX6_share_187 : decode cX6_share 187 = .ok (.ifCond .eq 27, 3) := by decide +kernel
theorem dX6_share_190 : decode cX6_share 190 = .ok (.lload 9, 2) := by decide +kernel
theorem dX6_share_192 : decode cX6_share 192 = .ok (.lload 15, 2) := by decide +kernel
theorem dX6_share_194 : decode cX6_share 194 = .ok (.lmul, 1) := by decide +kernel
theorem dX6_share_195 : decode cX6_share 195 = .ok (.lload 7, 2) := by decide +kernel
theorem dX6_share_197 : decode cX6_share 197 = .ok (.invokestatic 147, 3) := by decide +kernel
theorem dX6_share_200 : decode cX6_share 200 = .ok (.lload 9, 2) := by decide +kernel
theorem dX6_share_202 : decode cX6_share 202 = .ok (.lload 11, 2) := by decide +kernel
theorem dX6_share_204 : decode cX6_share 204 = .ok (.lmul, 1) := by decide +kernel
theorem dX6_share_205 : decode cX6_share 205 = .ok (.lload 7, 2) := by decide +kernel
theorem dX6_share_207 : decode cX6_share 207 = .ok (.invokestatic 147, 3) := by decide +kernel
theorem dX6_share_210 : decode cX6_share 210 = .ok (.lsub, 1) := by decide +kernel
theorem dX6_share_211 : decode cX6_share 211 = .ok (.goto 4, 3) := by decide +kernel
theorem dX6_share_214 : decode cX6_share 214 = .ok (.lconst 0, 1) := by decide +kernel
theorem dX6_share_215 : decode cX6_share 215 = .ok (.lastore, 1) := by decide +kernel
theorem dX6_share_216 : decode cX6_share 216 = .ok (.lload 15, 2) := by decide +kernel
theorem dX6_share_218 : decode cX6_share 218 = .ok (.lstore 11, 2) := by decide +kernel
theorem dX6_share_220 : decode cX6_share 220 = .ok (.iinc 13 1, 3) := by decide +kernel
theorem dX6_share_223 : decode cX6_share 223 = .ok (.goto (-131), 3) := by decide +kernel
theorem dX6_share_226 : decode cX6_share 226 = .ok (.return_, 1) := by decide +kernel
set_option maxRecDepth 20000 in
theorem ggX6_forget_X6_all : GoodIn wsX6_forget wsX6_all := goodIn_r _ [12, 2, 3, 4, 1, 29, 30, 31, 32, 33, 34, 35, 36, 37, 38, 39, 40, 41, 42, 43, 44, 45, 46, 47, 48, 49, 50, 51, 52, 53, 54, 55, 56, 57, 58, 59, 60] (by decide +kernel) (by decide +kernel)
set_option maxRecDepth 20000 in
theorem gX6_forget_X6_all : GoodIn wsX6_forget (wsV RX6 98 RX6 yX6_all wsX6_all) := goodIn_app (goodIn_of _ (by decide +kernel)) ggX6_forget_X6_all
set_option maxRecDepth 20000 in
theorem ggX6_forget_X6_move : GoodIn wsX6_forget wsX6_move := goodIn_r _ [16, 17, 18, 19, 20, 21, 22, 23, 24, 25, 26, 27, 11, 28, 29, 30, 31, 32, 33, 34, 35, 36, 37, 38, 39, 40, 41, 42, 43, 44, 45, 46, 47, 48, 49, 50, 51, 52, 53, 54, 55, 56, 57, 58, 59, 60] (by decide +kernel) (by decide +kernel)
set_option maxRecDepth 20000 in
theorem gX6_forget_X6_move : GoodIn wsX6_forget (wsV RX6 110 RX6 yX6_move wsX6_move) := goodIn_app (goodIn_of _ (by decide +kernel)) ggX6_forget_X6_move
theorem dX6_forget_0 : decode cX6_forget 0 = .ok (.aload_n 0, 1) := by decide +kernel
theorem dX6_forget_1 : decode cX6_forget 1 = .ok (.getfield 35, 3) := by decide +kernel
theorem dX6_forget_4 : decode cX6_forget 4 = .ok (.iconst 0, 1) := by decide +kernel
theorem dX6_forget_5 : decode cX6_forget 5 = .ok (.iaload, 1) := by decide +kernel
theorem dX6_forget_6 : decode cX6_forget 6 = .ok (.istore_n 1, 1) := by decide +kernel
theorem dX6_forget_7 : decode cX6_forget 7 = .ok (.sipush 8400, 3) := by decide +kernel
theorem dX6_forget_10 : decode cX6_forget 10 = .ok (.aload_n 0, 1) := by decide +kernel
theorem dX6_forget_11 : decode cX6_forget 11 = .ok (.invokevirtual 98, 3) := by decide +kernel
theorem dX6_forget_14 : decode cX6_forget 14 = .ok (.iadd, 1) := by decide +kernel
theorem dX6_forget_15 : decode cX6_forget 15 = .ok (.aload_n 0, 1) := by decide +kernel
theorem dX6_forget_16 : decode cX6_forget 16 = .ok (.getfield 89, 3) := by decide +kernel
theorem dX6_forget_19 : decode cX6_forget 19 = .ok (.isub, 1) := by decide +kernel
theorem dX6_forget_20 : decode cX6_forget 20 = .ok (.aload_n 0, 1) := by decide +kernel
theorem dX6_forget_21 : decode cX6_forget 21 = .ok (.getfield 92, 3) := by decide +kernel
theorem dX6_forget_24 : decode cX6_forget 24 = .ok (.isub, 1) := by decide +kernel
theorem dX6_forget_25 : decode cX6_forget 25 = .ok (.istore_n 2, 1) := by decide +kernel
theorem dX6_forget_26 : decode cX6_forget 26 = .ok (.sipush 8400, 3) := by decide +kernel
theorem dX6_forget_29 : decode cX6_forget 29 = .ok (.iload_n 1, 1) := by decide +kernel
theorem dX6_forget_30 : decode cX6_forget 30 = .ok (.iadd, 1) := by decide +kernel
theorem dX6_forget_31 : decode cX6_forget 31 = .ok (.istore_n 3, 1) := by decide +kernel
theorem dX6_forget_32 : decode cX6_forget 32 = .ok (.iload_n 3, 1) := by decide +kernel
theorem dX6_forget_33 : decode cX6_forget 33 = .ok (.iload_n 2, 1) := by decide +kernel
theorem dX6_forget_34 : decode cX6_forget 34 = .ok (.if_icmp .ge 17, 3) := by decide +kernel
theorem dX6_forget_37 : decode cX6_forget 37 = .ok (.aload_n 0, 1) := by decide +kernel
theorem dX6_forget_38 : decode cX6_forget 38 = .ok (.iload_n 3, 1) := by decide +kernel
theorem dX6_forget_39 : decode cX6_forget 39 = .ok (.iload_n 3, 1) := by decide +kernel
theorem dX6_forget_40 : decode cX6_forget 40 = .ok (.iload_n 1, 1) := by decide +kernel
theorem dX6_forget_41 : decode cX6_forget 41 = .ok (.isub, 1) := by decide +kernel
theorem dX6_forget_42 : decode cX6_forget 42 = .ok (.invokevirtual 110, 3) := by decide +kernel
theorem dX6_forget_45 : decode cX6_forget 45 = .ok (.iinc 3 1, 3) := by decide +kernel
theorem dX6_forget_48 : decode cX6_forget 48 = .ok (.goto (-16), 3) := by decide +kernel
theorem dX6_forget_51 : decode cX6_forget 51 = .ok (.aload_n 0, 1) := by decide +kernel
theorem dX6_forget_52 : decode cX6_forget 52 = .ok (.dup, 1) := by decide +kernel
theorem dX6_forget_53 : decode cX6_forget 53 = .ok (.getfield 95, 3) := by decide +kernel
theorem dX6_forget_56 : decode cX6_forget 56 = .ok (.iconst 1, 1) := by decide +kernel
theorem dX6_forget_57 : decode cX6_forget 57 = .ok (.isub, 1) := by decide +kernel
theorem dX6_forget_58 : decode cX6_forget 58 = .ok (.putfield 95, 3) := by decide +kernel
theorem dX6_forget_61 : decode cX6_forget 61 = .ok (.iconst 0, 1) := by decide +kernel
theorem dX6_forget_62 : decode cX6_forget 62 = .ok (.istore_n 3, 1) := by decide +kernel
theorem dX6_forget_63 : decode cX6_forget 63 = .ok (.iload_n 3, 1) := by decide +kernel
theorem dX6_forget_64 : decode cX6_forget 64 = .ok (.aload_n 0, 1) := by decide +kernel
theorem dX6_forget_65 : decode cX6_forget 65 = .ok (.getfield 95, 3) := by decide +kernel
theorem dX6_forget_68 : decode cX6_forget 68 = .ok (.if_icmp .ge 65, 3) := by decide +kernel
theorem dX6_forget_71 : decode cX6_forget 71 = .ok (.aload_n 0, 1) := by decide +kernel
theorem dX6_forget_72 : decode cX6_forget 72 = .ok (.getfield 35, 3) := by decide +kernel
theorem dX6_forget_75 : decode cX6_forget 75 = .ok (.iload_n 3, 1) := by decide +kernel
theorem dX6_forget_76 : decode cX6_forget 76 = .ok (.aload_n 0, 1) := by decide +kernel
theorem dX6_forget_77 : decode cX6_forget 77 = .ok (.getfield 35, 3) := by decide +kernel
theorem dX6_forget_80 : decode cX6_forget 80 = .ok (.iload_n 3, 1) := by decide +kernel
theorem dX6_forget_81 : decode cX6_forget 81 = .ok (.iconst 1, 1) := by decide +kernel
theorem dX6_forget_82 : decode cX6_forget 82 = .ok (.iadd, 1) := by decide +kernel
theorem dX6_forget_83 : decode cX6_forget 83 = .ok (.iaload, 1) := by decide +kernel
theorem dX6_forget_84 : decode cX6_forget 84 = .ok (.iastore, 1) := by decide +kernel
theorem dX6_forget_85 : decode cX6_forget 85 = .ok (.aload_n 0, 1) := by decide +kernel
theorem dX6_forget_86 : decode cX6_forget 86 = .ok (.getfield 38, 3) := by decide +kernel
theorem dX6_forget_89 : decode cX6_forget 89 = .ok (.iload_n 3, 1) := by decide +kernel
theorem dX6_forget_90 : decode cX6_forget 90 = .ok (.aload_n 0, 1) := by decide +kernel
theorem dX6_forget_91 : decode cX6_forget 91 = .ok (.getfield 38, 3) := by decide +kernel
theorem dX6_forget_94 : decode cX6_forget 94 = .ok (.iload_n 3, 1) := by decide +kernel
theorem dX6_forget_95 : decode cX6_forget 95 = .ok (.iconst 1, 1) := by decide +kernel
theorem dX6_forget_96 : decode cX6_forget 96 = .ok (.iadd, 1) := by decide +kernel
theorem dX6_forget_97 : decode cX6_forget 97 = .ok (.iaload, 1) := by decide +kernel
theorem dX6_forget_98 : decode cX6_forget 98 = .ok (.iastore, 1) := by decide +kernel
theorem dX6_forget_99 : decode cX6_forget 99 = .ok (.aload_n 0, 1) := by decide +kernel
theorem dX6_forget_100 : decode cX6_forget 100 = .ok (.getfield 41, 3) := by decide +kernel
theorem dX6_forget_103 : decode cX6_forget 103 = .ok (.iload_n 3, 1) := by decide +kernel
theorem dX6_forget_104 : decode cX6_forget 104 = .ok (.aload_n 0, 1) := by decide +kernel
theorem dX6_forget_105 : decode cX6_forget 105 = .ok (.getfield 41, 3) := by decide +kernel
theorem dX6_forget_108 : decode cX6_forget 108 = .ok (.iload_n 3, 1) := by decide +kernel
theorem dX6_forget_109 : decode cX6_forget 109 = .ok (.iconst 1, 1) := by decide +kernel
theorem dX6_forget_110 : decode cX6_forget 110 = .ok (.iadd, 1) := by decide +kernel
theorem dX6_forget_111 : decode cX6_forget 111 = .ok (.iaload, 1) := by decide +kernel
theorem dX6_forget_112 : decode cX6_forget 112 = .ok (.iastore, 1) := by decide +kernel
theorem dX6_forget_113 : decode cX6_forget 113 = .ok (.aload_n 0, 1) := by decide +kernel
theorem dX6_forget_114 : decode cX6_forget 114 = .ok (.getfield 44, 3) := by decide +kernel
theorem dX6_forget_117 : decode cX6_forget 117 = .ok (.iload_n 3, 1) := by decide +kernel
theorem dX6_forget_118 : decode cX6_forget 118 = .ok (.aload_n 0, 1) := by decide +kernel
theorem dX6_forget_119 : decode cX6_forget 119 = .ok (.getfield 44, 3) := by decide +kernel
theorem dX6_forget_122 : decode cX6_forget 122 = .ok (.iload_n 3, 1) := by decide +kernel
theorem dX6_forget_123 : decode cX6_forget 123 = .ok (.iconst 1, 1) := by decide +kernel
theorem dX6_forget_124 : decode cX6_forget 124 = .ok (.iadd, 1) := by decide +kernel
theorem dX6_forget_125 : decode cX6_forget 125 = .ok (.iaload, 1) := by decide +kernel
theorem dX6_forget_126 : decode cX6_forget 126 = .ok (.iastore, 1) := by decide +kernel
theorem dX6_forget_127 : decode cX6_forget 127 = .ok (.iinc 3 1, 3) := by decide +kernel
theorem dX6_forget_130 : decode cX6_forget 130 = .ok (.goto (-67), 3) := by decide +kernel
theorem dX6_forget_133 : decode cX6_forget 133 = .ok (.return_, 1) := by decide +kernel
set_option maxRecDepth 20000 in
theorem ggX6_end_X6_sums : GoodIn wsX6_end wsX6_sums := goodIn_r _ [21, 2, 5, 4, 3, 6, 22, 23, 24, 25, 26, 27, 28, 29, 30, 31, 20, 32, 63, 64, 65, 66, 67, 68, 69, 70, 71, 72, 73, 74, 75, 76, 77, 78, 79, 80, 81, 82, 83, 84, 85, 86, 87, 88, 89, 90, 91, 92, 93, 94] (by decide +kernel) (by decide +kernel)
set_option maxRecDepth 20000 in
theorem gX6_end_X6_sums : GoodIn wsX6_end (wsV RX6 154 RX6 yX6_sums wsX6_sums) := goodIn_app (goodIn_of _ (by decide +kernel)) ggX6_end_X6_sums
set_option maxRecDepth 20000 in
theorem ggX6_end_X6_isSizeLong : GoodIn wsX6_end wsX6_isSizeLong := goodIn_r _ [35, 36, 37] (by decide +kernel) (by decide +kernel)
set_option maxRecDepth 20000 in
theorem gX6_end_X6_isSizeLong : GoodIn wsX6_end (va_wsS RX6 158 yX6_isSizeLong wsX6_isSizeLong) := goodIn_app (goodIn_of _ (by decide +kernel)) ggX6_end_X6_isSizeLong
set_option maxRecDepth 20000 in
theorem ggX6_end_X6_share : GoodIn wsX6_end wsX6_share := goodIn_r _ [41, 6, 3, 24, 26, 27, 28, 42, 43, 44, 20, 45, 46, 63, 64, 65, 66, 67, 68, 69, 70, 71, 72, 73, 74, 75, 76, 77, 78, 79, 80, 81, 82, 83, 84, 85, 86, 87, 88, 89, 90, 91, 92, 93, 94] (by decide +kernel) (by decide +kernel)
set_option maxRecDepth 20000 in
theorem gX6_end_X6_share : GoodIn wsX6_end (wsV RX6 162 RX6 yX6_share wsX6_share) := goodIn_app (goodIn_of _ (by decide +kernel)) ggX6_end_X6_share
set_option maxRecDepth 20000 in
theorem ggX6_end_X6_forget : GoodIn wsX6_end wsX6_forget := goodIn_r _ [50, 9, 15, 14, 8, 10, 11, 12, 51, 52, 53, 20, 54, 55, 56, 57, 58, 24, 25, 22, 23, 27, 26, 28, 42, 59, 60, 61, 62, 63, 64, 65, 66, 67, 68, 69, 70, 71, 72, 73, 74, 75, 76, 77, 78, 79, 80, 81, 82, 83, 84, 85, 86, 87, 88, 89, 90, 91, 92, 93, 94] (by decide +kernel) (by decide +kernel)
set_option maxRecDepth 20000 in
theorem gX6_end_X6_forget : GoodIn wsX6_end (wsV RX6 166 RX6 yX6_forget wsX6_forget) := goodIn_app (goodIn_of _ (by decide +kernel)) ggX6_end_X6_forget
set_option maxRecDepth 20000 in
theorem ggX6_end_X6_move : GoodIn wsX6_end wsX6_move := goodIn_r _ [58, 24, 25, 22, 23, 27, 26, 28, 42, 59, 60, 61, 20, 62, 63, 64, 65, 66, 67, 68, 69, 70, 71, 72, 73, 74, 75, 76, 77, 78, 79, 80, 81, 82, 83, 84, 85, 86, 87, 88, 89, 90, 91, 92, 93, 94] (by decide +kernel) (by decide +kernel)
set_option maxRecDepth 20000 in
theorem gX6_end_X6_move : GoodIn wsX6_end (wsV RX6 110 RX6 yX6_move wsX6_move) := goodIn_app (goodIn_of _ (by decide +kernel)) ggX6_end_X6_move
theorem dX6_end_0 : decode cX6_end 0 = .ok (.aload_n 0, 1) := by decide +kernel
theorem dX6_end_1 : decode cX6_end 1 = .ok (.sipush 4200, 3) := by decide +kernel
theorem dX6_end_4 : decode cX6_end 4 = .ok (.iload_n 1, 1) := by decide +kernel
theorem dX6_end_5 : decode cX6_end 5 = .ok (.aload_n 0, 1) := by decide +kernel
theorem dX6_end_6 : decode cX6_end 6 = .ok (.getfield 151, 3) := by decide +kernel
theorem dX6_end_9 : decode cX6_end 9 = .ok (.invokevirtual 154, 3) := by decide +kernel
theorem dX6_end_12 : decode cX6_end 12 = .ok (.aload_n 0, 1) := by decide +kernel
theorem dX6_end_13 : decode cX6_end 13 = .ok (.getfield 114, 3) := by decide +kernel
theorem dX6_end_16 : decode cX6_end 16 = .ok (.invokestatic 158, 3) := by decide +kernel
theorem dX6_end_19 : decode cX6_end 19 = .ok (.ifCond .eq 37, 3) := by decide +kernel
theorem dX6_end_22 : decode cX6_end 22 = .ok (.aload_n 0, 1) := by decide +kernel
theorem dX6_end_23 : decode cX6_end 23 = .ok (.getfield 124, 3) := by decide +kernel
theorem dX6_end_26 : decode cX6_end 26 = .ok (.invokestatic 158, 3) := by decide +kernel
theorem dX6_end_29 : decode cX6_end 29 = .ok (.ifCond .eq 27, 3) := by decide +kernel
theorem dX6_end_32 : decode cX6_end 32 = .ok (.aload_n 0, 1) := by decide +kernel
theorem dX6_end_33 : decode cX6_end 33 = .ok (.getfield 121, 3) := by decide +kernel
theorem dX6_end_36 : decode cX6_end 36 = .ok (.invokestatic 158, 3) := by decide +kernel
theorem dX6_end_39 : decode cX6_end 39 = .ok (.ifCond .eq 17, 3) := by decide +kernel
theorem dX6_end_42 : decode cX6_end 42 = .ok (.aload_n 0, 1) := by decide +kernel
theorem dX6_end_43 : decode cX6_end 43 = .ok (.getfield 118, 3) := by decide +kernel
theorem dX6_end_46 : decode cX6_end 46 = .ok (.invokestatic 158, 3) := by decide +kernel
theorem dX6_end_49 : decode cX6_end 49 = .ok (.ifCond .eq 7, 3) := by decide +kernel
theorem dX6_end_52 : decode cX6_end 52 = .ok (.iconst 1, 1) := by decide +kernel
theorem dX6_end_53 : decode cX6_end 53 = .ok (.goto 4, 3) := by decide +kernel
theorem dX6_end_56 : decode cX6_end 56 = .ok (.iconst 0, 1) := by decide +kernel
theorem dX6_end_57 : decode cX6_end 57 = .ok (.istore_n 2, 1) := by decide +kernel
theorem dX6_end_58 : decode cX6_end 58 = .ok (.iconst 0, 1) := by decide +kernel
theorem dX6_end_59 : decode cX6_end 59 = .ok (.istore_n 3, 1) := by decide +kernel
theorem dX6_end_60 : decode cX6_end 60 = .ok (.iload_n 3, 1) := by decide +kernel
theorem dX6_end_61 : decode cX6_end 61 = .ok (.iconst 4, 1) := by decide +kernel
theorem dX6_end_62 : decode cX6_end 62 = .ok (.if_icmp .ge 31, 3) := by decide +kernel
theorem dX6_end_65 : decode cX6_end 65 = .ok (.iload_n 2, 1) := by decide +kernel
theorem dX6_end_66 : decode cX6_end 66 = .ok (.ifCond .eq 19, 3) := by decide +kernel
theorem dX6_end_69 : decode cX6_end 69 = .ok (.aload_n 0, 1) := by decide +kernel
theorem dX6_end_70 : decode cX6_end 70 = .ok (.getfield 51, 3) := by decide +kernel
theorem dX6_end_73 : decode cX6_end 73 = .ok (.iload_n 3, 1) := by decide +kernel
theorem dX6_end_74 : decode cX6_end 74 = .ok (.laload, 1) := by decide +kernel
theorem dX6_end_75 : decode cX6_end 75 = .ok (.invokestatic 158, 3) := by decide +kernel
theorem dX6_end_78 : decode cX6_end 78 = .ok (.ifCond .eq 7, 3) := by decide +kernel
theorem dX6_end_81 : decode cX6_end 81 = .ok (.iconst 1, 1) := by decide +kernel
theorem dX6_end_82 : decode cX6_end 82 = .ok (.goto 4, 3) := by decide +kernel
theorem dX6_end_85 : decode cX6_end 85 = .ok (.iconst 0, 1) := by decide +kernel
theorem dX6_end_86 : decode cX6_end 86 = .ok (.istore_n 2, 1) := by decide +kernel
theorem dX6_end_87 : decode cX6_end 87 = .ok (.iinc 3 1, 3) := by decide +kernel
theorem dX6_end_90 : decode cX6_end 90 = .ok (.goto (-30), 3) := by decide +kernel
theorem dX6_end_93 : decode cX6_end 93 = .ok (.iload_n 2, 1) := by decide +kernel
theorem dX6_end_94 : decode cX6_end 94 = .ok (.ifCond .ne 5, 3) := by decide +kernel
theorem dX6_end_97 : decode cX6_end 97 = .ok (.iconst 0, 1) := by decide +kernel
theorem dX6_end_98 : decode cX6_end 98 = .ok (.ireturn, 1) := by decide +kernel
theorem dX6_end_99 : decode cX6_end 99 = .ok (.aload_n 0, 1) := by decide +kernel
theorem dX6_end_100 : decode cX6_end 100 = .ok (.sipush 4200, 3) := by decide +kernel
theorem dX6_end_103 : decode cX6_end 103 = .ok (.iload_n 1, 1) := by decide +kernel
theorem dX6_end_104 : decode cX6_end 104 = .ok (.aload_n 0, 1) := by decide +kernel
theorem dX6_end_105 : decode cX6_end 105 = .ok (.getfield 138, 3) := by decide +kernel
theorem dX6_end_108 : decode cX6_end 108 = .ok (.i2l, 1) := by decide +kernel
theorem dX6_end_109 : decode cX6_end 109 = .ok (.aload_n 0, 1) := by decide +kernel
theorem dX6_end_110 : decode cX6_end 110 = .ok (.getfield 114, 3) := by decide +kernel
theorem dX6_end_113 : decode cX6_end 113 = .ok (.lsub, 1) := by decide +kernel
theorem dX6_end_114 : decode cX6_end 114 = .ok (.invokevirtual 162, 3) := by decide +kernel
theorem dX6_end_117 : decode cX6_end 117 = .ok (.aload_n 0, 1) := by decide +kernel
theorem dX6_end_118 : decode cX6_end 118 = .ok (.getfield 95, 3) := by decide +kernel
theorem dX6_end_121 : decode cX6_end 121 = .ok (.bipush 8, 2) := by decide +kernel
theorem dX6_end_123 : decode cX6_end 123 = .ok (.if_icmp .ne 7, 3) := by decide +kernel
theorem dX6_end_126 : decode cX6_end 126 = .ok (.aload_n 0, 1) := by decide +kernel
theorem dX6_end_127 : decode cX6_end 127 = .ok (.invokevirtual 166, 3) := by decide +kernel
theorem dX6_end_130 : decode cX6_end 130 = .ok (.sipush 8400, 3) := by decide +kernel
theorem dX6_end_133 : decode cX6_end 133 = .ok (.istore_n 3, 1) := by decide +kernel
theorem dX6_end_134 : decode cX6_end 134 = .ok (.iconst 0, 1) := by decide +kernel
theorem dX6_end_135 : decode cX6_end 135 = .ok (.istore 4, 2) := by decide +kernel
theorem dX6_end_137 : decode cX6_end 137 = .ok (.iload 4, 2) := by decide +kernel
theorem dX6_end_139 : decode cX6_end 139 = .ok (.aload_n 0, 1) := by decide +kernel
theorem dX6_end_140 : decode cX6_end 140 = .ok (.getfield 95, 3) := by decide +kernel
theorem dX6_end_143 : decode cX6_end 143 = .ok (.if_icmp .ge 19, 3) := by decide +kernel
theorem dX6_end_146 : decode cX6_end 146 = .ok (.iload_n 3, 1) := by decide +kernel
theorem dX6_end_147 : decode cX6_end 147 = .ok (.aload_n 0, 1) := by decide +kernel
theorem dX6_end_148 : decode cX6_end 148 = .ok (.getfield 35, 3) := by decide +kernel
theorem dX6_end_151 : decode cX6_end 151 = .ok (.iload 4, 2) := by decide +kernel
theorem dX6_end_153 : decode cX6_end 153 = .ok (.iaload, 1) := by decide +kernel
theorem dX6_end_154 : decode cX6_end 154 = .ok (.iadd, 1) := by decide +kernel
theorem dX6_end_155 : decode cX6_end 155 = .ok (.istore_n 3, 1) := by decide +kernel
theorem dX6_end_156 : decode cX6_end 156 = .ok (.iinc 4 1, 3) := by decide +kernel
theorem dX6_end_159 : decode cX6_end 159 = .ok (.goto (-22), 3) := by decide +kernel
theorem dX6_end_162 : decode cX6_end 162 = .ok (.iconst 0, 1) := by decide +kernel
theorem dX6_end_163 : decode cX6_end 163 = .ok (.istore 4, 2) := by decide +kernel
theorem dX6_end_165 : decode cX6_end 165 = .ok (.iload 4, 2) := by decide +kernel
theorem dX6_end_167 : decode cX6_end 167 = .ok (.iload_n 1, 1) := by decide +kernel
theorem dX6_end_168 : decode cX6_end 168 = .ok (.if_icmp .ge 23, 3) := by decide +kernel
theorem dX6_end_171 : decode cX6_end 171 = .ok (.aload_n 0, 1) := by decide +kernel
theorem dX6_end_172 : decode cX6_end 172 = .ok (.sipush 4200, 3) := by decide +kernel
theorem dX6_end_175 : decode cX6_end 175 = .ok (.iload 4, 2) := by decide +kernel
theorem dX6_end_177 : decode cX6_end 177 = .ok (.iadd, 1) := by decide +kernel
theorem dX6_end_178 : decode cX6_end 178 = .ok (.iload_n 3, 1) := by decide +kernel
theorem dX6_end_179 : decode cX6_end 179 = .ok (.iload 4, 2) := by decide +kernel
theorem dX6_end_181 : decode cX6_end 181 = .ok (.iadd, 1) := by decide +kernel
theorem dX6_end_182 : decode cX6_end 182 = .ok (.invokevirtual 110, 3) := by decide +kernel
theorem dX6_end_185 : decode cX6_end 185 = .ok (.iinc 4 1, 3) := by decide +kernel
theorem dX6_end_188 : decode cX6_end 188 = .ok (.goto (-23), 3) := by decide +kernel
theorem dX6_end_191 : decode cX6_end 191 = .ok (.aload_n 0, 1) := by decide +kernel
theorem dX6_end_192 : decode cX6_end 192 = .ok (.getfield 35, 3) := by decide +kernel
theorem dX6_end_195 : decode cX6_end 195 = .ok (.aload_n 0, 1) := by decide +kernel
theorem dX6_end_196 : decode cX6_end 196 = .ok (.getfield 95, 3) := by decide +kernel
theorem dX6_end_199 : decode cX6_end 199 = .ok (.iload_n 1, 1) := by decide +kernel
theorem dX6_end_200 : decode cX6_end 200 = .ok (.iastore, 1) := by decide +kernel
theorem dX6_end_201 : decode cX6_end 201 = .ok (.aload_n 0, 1) := by decide +kernel
theorem dX6_end_202 : decode cX6_end 202 = .ok (.getfield 38, 3) := by decide +kernel
theorem dX6_end_205 : decode cX6_end 205 = .ok (.aload_n 0, 1) := by decide +kernel
theorem dX6_end_206 : decode cX6_end 206 = .ok (.getfield 95, 3) := by decide +kernel
theorem dX6_end_209 : decode cX6_end 209 = .ok (.aload_n 0, 1) := by decide +kernel
theorem dX6_end_210 : decode cX6_end 210 = .ok (.getfield 138, 3) := by decide +kernel
theorem dX6_end_213 : decode cX6_end 213 = .ok (.iastore, 1) := by decide +kernel
theorem dX6_end_214 : decode cX6_end 214 = .ok (.aload_n 0, 1) := by decide +kernel
theorem dX6_end_215 : decode cX6_end 215 = .ok (.getfield 41, 3) := by decide +kernel
theorem dX6_end_218 : decode cX6_end 218 = .ok (.aload_n 0, 1) := by decide +kernel
theorem dX6_end_219 : decode cX6_end 219 = .ok (.getfield 95, 3) := by decide +kernel
theorem dX6_end_222 : decode cX6_end 222 = .ok (.aload_n 0, 1) := by decide +kernel
theorem dX6_end_223 : decode cX6_end 223 = .ok (.getfield 118, 3) := by decide +kernel
theorem dX6_end_226 : decode cX6_end 226 = .ok (.l2i, 1) := by decide +kernel
theorem dX6_end_227 : decode cX6_end 227 = .ok (.iastore, 1) := by decide +kernel
theorem dX6_end_228 : decode cX6_end 228 = .ok (.aload_n 0, 1) := by decide +kernel
theorem dX6_end_229 : decode cX6_end 229 = .ok (.getfield 44, 3) := by decide +kernel
theorem dX6_end_232 : decode cX6_end 232 = .ok (.aload_n 0, 1) := by decide +kernel
theorem dX6_end_233 : decode cX6_end 233 = .ok (.getfield 95, 3) := by decide +kernel
theorem dX6_end_236 : decode cX6_end 236 = .ok (.aload_n 0, 1) := by decide +kernel
theorem dX6_end_237 : decode cX6_end 237 = .ok (.getfield 121, 3) := by decide +kernel
theorem dX6_end_240 : decode cX6_end 240 = .ok (.l2i, 1) := by decide +kernel
theorem dX6_end_241 : decode cX6_end 241 = .ok (.iastore, 1) := by decide +kernel
theorem dX6_end_242 : decode cX6_end 242 = .ok (.aload_n 0, 1) := by decide +kernel
theorem dX6_end_243 : decode cX6_end 243 = .ok (.dup, 1) := by decide +kernel
theorem dX6_end_244 : decode cX6_end 244 = .ok (.getfield 95, 3) := by decide +kernel
theorem dX6_end_247 : decode cX6_end 247 = .ok (.iconst 1, 1) := by decide +kernel
theorem dX6_end_248 : decode cX6_end 248 = .ok (.iadd, 1) := by decide +kernel
theorem dX6_end_249 : decode cX6_end 249 = .ok (.putfield 95, 3) := by decide +kernel
theorem dX6_end_252 : decode cX6_end 252 = .ok (.aload_n 0, 1) := by decide +kernel
theorem dX6_end_253 : decode cX6_end 253 = .ok (.dup, 1) := by decide +kernel
end
section
theorem dX6_end_254 : decode cX6_end 254 = .ok (.getfield 169, 3) := by decide +kernel
theorem dX6_end_257 : decode cX6_end 257 = .ok (.iconst 1, 1) := by decide +kernel
theorem dX6_end_258 : decode cX6_end 258 = .ok (.iadd, 1) := by decide +kernel
theorem dX6_end_259 : decode cX6_end 259 = .ok (.putfield 169, 3) := by decide +kernel
theorem dX6_end_262 : decode cX6_end 262 = .ok (.aload_n 0, 1) := by decide +kernel
theorem dX6_end_263 : decode cX6_end 263 = .ok (.getfield 92, 3) := by decide +kernel
theorem dX6_end_266 : decode cX6_end 266 = .ok (.iload_n 1, 1) := by decide +kernel
theorem dX6_end_267 : decode cX6_end 267 = .ok (.isub, 1) := by decide +kernel
theorem dX6_end_268 : decode cX6_end 268 = .ok (.istore 4, 2) := by decide +kernel
theorem dX6_end_270 : decode cX6_end 270 = .ok (.aload_n 0, 1) := by decide +kernel
theorem dX6_end_271 : decode cX6_end 271 = .ok (.getfield 89, 3) := by decide +kernel
theorem dX6_end_274 : decode cX6_end 274 = .ok (.iconst 1, 1) := by decide +kernel
theorem dX6_end_275 : decode cX6_end 275 = .ok (.isub, 1) := by decide +kernel
theorem dX6_end_276 : decode cX6_end 276 = .ok (.istore 5, 2) := by decide +kernel
theorem dX6_end_278 : decode cX6_end 278 = .ok (.iload 5, 2) := by decide +kernel
theorem dX6_end_280 : decode cX6_end 280 = .ok (.ifCond .lt 20, 3) := by decide +kernel
theorem dX6_end_283 : decode cX6_end 283 = .ok (.aload_n 0, 1) := by decide +kernel
theorem dX6_end_284 : decode cX6_end 284 = .ok (.iload 5, 2) := by decide +kernel
theorem dX6_end_286 : decode cX6_end 286 = .ok (.iload 5, 2) := by decide +kernel
theorem dX6_end_288 : decode cX6_end 288 = .ok (.iload 4, 2) := by decide +kernel
theorem dX6_end_290 : decode cX6_end 290 = .ok (.iadd, 1) := by decide +kernel
theorem dX6_end_291 : decode cX6_end 291 = .ok (.invokevirtual 110, 3) := by decide +kernel
theorem dX6_end_294 : decode cX6_end 294 = .ok (.iinc 5 (-1), 3) := by decide +kernel
theorem dX6_end_297 : decode cX6_end 297 = .ok (.goto (-19), 3) := by decide +kernel
theorem dX6_end_300 : decode cX6_end 300 = .ok (.iconst 0, 1) := by decide +kernel
theorem dX6_end_301 : decode cX6_end 301 = .ok (.istore 5, 2) := by decide +kernel
theorem dX6_end_303 : decode cX6_end 303 = .ok (.iload 5, 2) := by decide +kernel
theorem dX6_end_305 : decode cX6_end 305 = .ok (.iload 4, 2) := by decide +kernel
theorem dX6_end_307 : decode cX6_end 307 = .ok (.if_icmp .ge 23, 3) := by decide +kernel
theorem dX6_end_310 : decode cX6_end 310 = .ok (.aload_n 0, 1) := by decide +kernel
theorem dX6_end_311 : decode cX6_end 311 = .ok (.sipush 4200, 3) := by decide +kernel
theorem dX6_end_314 : decode cX6_end 314 = .ok (.iload_n 1, 1) := by decide +kernel
theorem dX6_end_315 : decode cX6_end 315 = .ok (.iadd, 1) := by decide +kernel
theorem dX6_end_316 : decode cX6_end 316 = .ok (.iload 5, 2) := by decide +kernel
theorem dX6_end_318 : decode cX6_end 318 = .ok (.iadd, 1) := by decide +kernel
theorem dX6_end_319 : decode cX6_end 319 = .ok (.iload 5, 2) := by decide +kernel
theorem dX6_end_321 : decode cX6_end 321 = .ok (.invokevirtual 110, 3) := by decide +kernel
theorem dX6_end_324 : decode cX6_end 324 = .ok (.iinc 5 1, 3) := by decide +kernel
theorem dX6_end_327 : decode cX6_end 327 = .ok (.goto (-24), 3) := by decide +kernel
theorem dX6_end_330 : decode cX6_end 330 = .ok (.aload_n 0, 1) := by decide +kernel
theorem dX6_end_331 : decode cX6_end 331 = .ok (.dup, 1) := by decide +kernel
theorem dX6_end_332 : decode cX6_end 332 = .ok (.getfield 89, 3) := by decide +kernel
theorem dX6_end_335 : decode cX6_end 335 = .ok (.iload 4, 2) := by decide +kernel
theorem dX6_end_337 : decode cX6_end 337 = .ok (.iadd, 1) := by decide +kernel
theorem dX6_end_338 : decode cX6_end 338 = .ok (.putfield 89, 3) := by decide +kernel
theorem dX6_end_341 : decode cX6_end 341 = .ok (.aload_n 0, 1) := by decide +kernel
theorem dX6_end_342 : decode cX6_end 342 = .ok (.iconst 0, 1) := by decide +kernel
theorem dX6_end_343 : decode cX6_end 343 = .ok (.putfield 92, 3) := by decide +kernel
theorem dX6_end_346 : decode cX6_end 346 = .ok (.aload_n 0, 1) := by decide +kernel
theorem dX6_end_347 : decode cX6_end 347 = .ok (.iconst (-1), 1) := by decide +kernel
theorem dX6_end_348 : decode cX6_end 348 = .ok (.putfield 47, 3) := by decide +kernel
theorem dX6_end_351 : decode cX6_end 351 = .ok (.iconst 1, 1) := by decide +kernel
theorem dX6_end_352 : decode cX6_end 352 = .ok (.ireturn, 1) := by decide +kernel
set_option maxRecDepth 20000 in
theorem ggX6_begin_X6_write : GoodIn wsX6_begin wsX6_write := goodIn_r _ [16, 17, 18, 7, 19, 20, 21, 22, 23, 24, 25, 26, 27, 28, 29, 30, 31, 32, 33, 34, 35, 36, 37, 38, 39, 40, 41, 42, 43, 44, 45, 46, 47, 48, 49, 50, 51, 52, 53, 54, 55] rfl (by decide +kernel)
set_option maxRecDepth 20000 in
theorem gX6_begin_X6_write : GoodIn wsX6_begin (wsV RX6 102 RX6 yX6_write wsX6_write) := goodIn_app (goodIn_of _ (by decide +kernel)) ggX6_begin_X6_write
theorem dX6_begin_0 : decode cX6_begin 0 = .ok (.aload_n 0, 1) := by decide +kernel
theorem dX6_begin_1 : decode cX6_begin 1 = .ok (.aload_n 0, 1) := by decide +kernel
theorem dX6_begin_2 : decode cX6_begin 2 = .ok (.getfield 67, 3) := by decide +kernel
theorem dX6_begin_5 : decode cX6_begin 5 = .ok (.putfield 138, 3) := by decide +kernel
theorem dX6_begin_8 : decode cX6_begin 8 = .ok (.aload_n 0, 1) := by decide +kernel
theorem dX6_begin_9 : decode cX6_begin 9 = .ok (.aload_n 0, 1) := by decide +kernel
theorem dX6_begin_10 : decode cX6_begin 10 = .ok (.getfield 70, 3) := by decide +kernel
theorem dX6_begin_13 : decode cX6_begin 13 = .ok (.putfield 151, 3) := by decide +kernel
theorem dX6_begin_16 : decode cX6_begin 16 = .ok (.aload_n 0, 1) := by decide +kernel
theorem dX6_begin_17 : decode cX6_begin 17 = .ok (.iconst (-1), 1) := by decide +kernel
theorem dX6_begin_18 : decode cX6_begin 18 = .ok (.putfield 47, 3) := by decide +kernel
theorem dX6_begin_21 : decode cX6_begin 21 = .ok (.aload_n 0, 1) := by decide +kernel
theorem dX6_begin_22 : decode cX6_begin 22 = .ok (.getfield 77, 3) := by decide +kernel
theorem dX6_begin_25 : decode cX6_begin 25 = .ok (.i2l, 1) := by decide +kernel
theorem dX6_begin_26 : decode cX6_begin 26 = .ok (.aload_n 0, 1) := by decide +kernel
theorem dX6_begin_27 : decode cX6_begin 27 = .ok (.getfield 16, 3) := by decide +kernel
theorem dX6_begin_30 : decode cX6_begin 30 = .ok (.iconst 0, 1) := by decide +kernel
theorem dX6_begin_31 : decode cX6_begin 31 = .ok (.iaload, 1) := by decide +kernel
theorem dX6_begin_32 : decode cX6_begin 32 = .ok (.i2l, 1) := by decide +kernel
theorem dX6_begin_33 : decode cX6_begin 33 = .ok (.lsub, 1) := by decide +kernel
theorem dX6_begin_34 : decode cX6_begin 34 = .ok (.lstore_n 1, 1) := by decide +kernel
theorem dX6_begin_35 : decode cX6_begin 35 = .ok (.aload_n 0, 1) := by decide +kernel
theorem dX6_begin_36 : decode cX6_begin 36 = .ok (.sipush 4200, 3) := by decide +kernel
theorem dX6_begin_39 : decode cX6_begin 39 = .ok (.iconst 5, 1) := by decide +kernel
theorem dX6_begin_40 : decode cX6_begin 40 = .ok (.lload_n 1, 1) := by decide +kernel
theorem dX6_begin_41 : decode cX6_begin 41 = .ok (.lconst 0, 1) := by decide +kernel
theorem dX6_begin_42 : decode cX6_begin 42 = .ok (.lcmp, 1) := by decide +kernel
theorem dX6_begin_43 : decode cX6_begin 43 = .ok (.ifCond .ge 7, 3) := by decide +kernel
theorem dX6_begin_46 : decode cX6_begin 46 = .ok (.lconst 0, 1) := by decide +kernel
theorem dX6_begin_47 : decode cX6_begin 47 = .ok (.goto 4, 3) := by decide +kernel
theorem dX6_begin_50 : decode cX6_begin 50 = .ok (.lload_n 1, 1) := by decide +kernel
theorem dX6_begin_51 : decode cX6_begin 51 = .ok (.l2i, 1) := by decide +kernel
theorem dX6_begin_52 : decode cX6_begin 52 = .ok (.iconst 0, 1) := by decide +kernel
theorem dX6_begin_53 : decode cX6_begin 53 = .ok (.iconst 0, 1) := by decide +kernel
theorem dX6_begin_54 : decode cX6_begin 54 = .ok (.aload_n 0, 1) := by decide +kernel
theorem dX6_begin_55 : decode cX6_begin 55 = .ok (.getfield 80, 3) := by decide +kernel
theorem dX6_begin_58 : decode cX6_begin 58 = .ok (.aload_n 0, 1) := by decide +kernel
theorem dX6_begin_59 : decode cX6_begin 59 = .ok (.getfield 83, 3) := by decide +kernel
theorem dX6_begin_62 : decode cX6_begin 62 = .ok (.aload_n 0, 1) := by decide +kernel
theorem dX6_begin_63 : decode cX6_begin 63 = .ok (.getfield 86, 3) := by decide +kernel
theorem dX6_begin_66 : decode cX6_begin 66 = .ok (.invokevirtual 102, 3) := by decide +kernel
theorem dX6_begin_69 : decode cX6_begin 69 = .ok (.aload_n 0, 1) := by decide +kernel
theorem dX6_begin_70 : decode cX6_begin 70 = .ok (.iconst 1, 1) := by decide +kernel
theorem dX6_begin_71 : decode cX6_begin 71 = .ok (.putfield 92, 3) := by decide +kernel
theorem dX6_begin_74 : decode cX6_begin 74 = .ok (.return_, 1) := by decide +kernel
set_option maxRecDepth 20000 in
theorem ggX6_come_X6_isSolid : GoodIn wsX6_come wsX6_isSolid := goodIn_r _ [12, 1, 84, 85, 86, 87, 88, 89, 90, 91, 92, 93, 94, 95, 96, 97, 98, 99, 100, 101, 102, 103, 104, 105, 106, 107, 108, 109, 110, 111, 112, 113, 114, 115] rfl (by decide +kernel)
set_option maxRecDepth 20000 in
theorem gX6_come_X6_isSolid : GoodIn wsX6_come (wsV RX6 127 RX6 yX6_isSolid wsX6_isSolid) := goodIn_app (goodIn_of _ (by decide +kernel)) ggX6_come_X6_isSolid
set_option maxRecDepth 20000 in
theorem ggX6_come_X6_sums : GoodIn wsX6_come wsX6_sums := goodIn_r _ [16, 17, 18, 19, 20, 21, 22, 23, 1, 3, 24, 25, 26, 8, 9, 10, 11, 12, 84, 85, 86, 87, 88, 89, 90, 91, 92, 93, 94, 95, 96, 97, 98, 99, 100, 101, 102, 103, 104, 105, 106, 107, 108, 109, 110, 111, 112, 113, 114, 115] rfl (by decide +kernel)
set_option maxRecDepth 20000 in
theorem gX6_come_X6_sums : GoodIn wsX6_come (wsV RX6 154 RX6 yX6_sums wsX6_sums) := goodIn_app (goodIn_of _ (by decide +kernel)) ggX6_come_X6_sums
set_option maxRecDepth 20000 in
theorem ggX6_come_X6_weight : GoodIn wsX6_come wsX6_weight := goodIn_r _ [30, 17, 31, 21, 20, 32, 33, 11, 34, 35, 36, 37, 38, 84, 85, 86, 87, 88, 89, 90, 91, 92, 93, 94, 95, 96, 97, 98, 99, 100, 101, 102, 103, 104, 105, 106, 107, 108, 109, 110, 111, 112, 113, 114, 115] rfl (by decide +kernel)
set_option maxRecDepth 20000 in
theorem gX6_come_X6_weight : GoodIn wsX6_come (wsV RX6 172 RX6 yX6_weight wsX6_weight) := goodIn_app (goodIn_of _ (by decide +kernel)) ggX6_come_X6_weight
set_option maxRecDepth 20000 in
theorem ggX6_come_X6_end : GoodIn wsX6_come wsX6_end := goodIn_r _ [42, 4, 17, 20, 19, 18, 21, 31, 43, 44, 45, 46, 47, 48, 2, 49, 6, 13, 14, 15, 11, 16, 22, 23, 1, 3, 24, 25, 26, 8, 9, 10, 12, 50, 51, 52, 53, 54, 55, 56, 57, 58, 59, 60, 61, 62, 63, 64, 65, 66, 67, 68, 69, 70, 71, 72, 73, 74, 75, 76, 77, 78, 79, 84, 85, 86, 87, 88, 89, 90, 91, 92, 93, 94, 95, 96, 97, 98, 99, 100, 101, 102, 103, 104, 105, 106, 107, 108, 109, 110, 111, 112, 113, 114, 115] rfl (by decide +kernel)
set_option maxRecDepth 20000 in
theorem gX6_come_X6_end : GoodIn wsX6_come (wsV RX6 179 RX6 yX6_end wsX6_end) := goodIn_app (goodIn_of _ (by decide +kernel)) ggX6_come_X6_end
set_option maxRecDepth 20000 in
theorem ggX6_come_X6_move : GoodIn wsX6_come wsX6_move := goodIn_r _ [75, 1, 3, 22, 23, 25, 24, 26, 59, 76, 77, 78, 11, 79, 84, 85, 86, 87, 88, 89, 90, 91, 92, 93, 94, 95, 96, 97, 98, 99, 100, 101, 102, 103, 104, 105, 106, 107, 108, 109, 110, 111, 112, 113, 114, 115] rfl (by decide +kernel)
set_option maxRecDepth 20000 in
theorem gX6_come_X6_move : GoodIn wsX6_come (wsV RX6 110 RX6 yX6_move wsX6_move) := goodIn_app (goodIn_of _ (by decide +kernel)) ggX6_come_X6_move
set_option maxRecDepth 20000 in
theorem ggX6_come_X6_take : GoodIn wsX6_come wsX6_take := goodIn_r _ [83, 49, 72, 73, 74, 11, 75, 1, 3, 22, 23, 25, 24, 26, 59, 76, 77, 78, 79, 84, 85, 86, 87, 88, 89, 90, 91, 92, 93, 94, 95, 96, 97, 98, 99, 100, 101, 102, 103, 104, 105, 106, 107, 108, 109, 110, 111, 112, 113, 114, 115] rfl (by decide +kernel)
set_option maxRecDepth 20000 in
theorem gX6_come_X6_take : GoodIn wsX6_come (wsV RX6 182 RX6 yX6_take wsX6_take) := goodIn_app (goodIn_of _ (by decide +kernel)) ggX6_come_X6_take
theorem dX6_come_0 : decode cX6_come 0 = .ok (.aload_n 0, 1) := by decide +kernel
theorem dX6_come_1 : decode cX6_come 1 = .ok (.getfield 7, 3) := by decide +kernel
theorem dX6_come_4 : decode cX6_come 4 = .ok (.iconst 0, 1) := by decide +kernel
theorem dX6_come_5 : decode cX6_come 5 = .ok (.iaload, 1) := by decide +kernel
theorem dX6_come_6 : decode cX6_come 6 = .ok (.iconst 5, 1) := by decide +kernel
theorem dX6_come_7 : decode cX6_come 7 = .ok (.if_icmp .ne 20, 3) := by decide +kernel
theorem dX6_come_10 : decode cX6_come 10 = .ok (.aload_n 0, 1) := by decide +kernel
theorem dX6_come_11 : decode cX6_come 11 = .ok (.sipush 4200, 3) := by decide +kernel
theorem dX6_come_14 : decode cX6_come 14 = .ok (.aload_n 0, 1) := by decide +kernel
theorem dX6_come_15 : decode cX6_come 15 = .ok (.getfield 92, 3) := by decide +kernel
theorem dX6_come_18 : decode cX6_come 18 = .ok (.iadd, 1) := by decide +kernel
theorem dX6_come_19 : decode cX6_come 19 = .ok (.iconst 1, 1) := by decide +kernel
theorem dX6_come_20 : decode cX6_come 20 = .ok (.isub, 1) := by decide +kernel
theorem dX6_come_21 : decode cX6_come 21 = .ok (.invokevirtual 127, 3) := by decide +kernel
theorem dX6_come_24 : decode cX6_come 24 = .ok (.goto 60, 3) := by decide +kernel
theorem dX6_come_27 : decode cX6_come 27 = .ok (.aload_n 0, 1) := by decide +kernel
theorem dX6_come_28 : decode cX6_come 28 = .ok (.getfield 7, 3) := by decide +kernel
theorem dX6_come_31 : decode cX6_come 31 = .ok (.iconst 0, 1) := by decide +kernel
theorem dX6_come_32 : decode cX6_come 32 = .ok (.iaload, 1) := by decide +kernel
theorem dX6_come_33 : decode cX6_come 33 = .ok (.bipush 6, 2) := by decide +kernel
theorem dX6_come_35 : decode cX6_come 35 = .ok (.if_icmp .ne 21, 3) := by decide +kernel
theorem dX6_come_38 : decode cX6_come 38 = .ok (.aload_n 0, 1) := by decide +kernel
theorem dX6_come_39 : decode cX6_come 39 = .ok (.getfield 7, 3) := by decide +kernel
theorem dX6_come_42 : decode cX6_come 42 = .ok (.iconst 1, 1) := by decide +kernel
theorem dX6_come_43 : decode cX6_come 43 = .ok (.iaload, 1) := by decide +kernel
theorem dX6_come_44 : decode cX6_come 44 = .ok (.iconst 5, 1) := by decide +kernel
theorem dX6_come_45 : decode cX6_come 45 = .ok (.if_icmp .ne 7, 3) := by decide +kernel
theorem dX6_come_48 : decode cX6_come 48 = .ok (.iconst 1, 1) := by decide +kernel
theorem dX6_come_49 : decode cX6_come 49 = .ok (.goto 35, 3) := by decide +kernel
theorem dX6_come_52 : decode cX6_come 52 = .ok (.iconst 0, 1) := by decide +kernel
theorem dX6_come_53 : decode cX6_come 53 = .ok (.goto 31, 3) := by decide +kernel
theorem dX6_come_56 : decode cX6_come 56 = .ok (.aload_n 0, 1) := by decide +kernel
theorem dX6_come_57 : decode cX6_come 57 = .ok (.getfield 7, 3) := by decide +kernel
theorem dX6_come_60 : decode cX6_come 60 = .ok (.iconst 0, 1) := by decide +kernel
theorem dX6_come_61 : decode cX6_come 61 = .ok (.iaload, 1) := by decide +kernel
theorem dX6_come_62 : decode cX6_come 62 = .ok (.bipush 7, 2) := by decide +kernel
theorem dX6_come_64 : decode cX6_come 64 = .ok (.if_icmp .ne 19, 3) := by decide +kernel
theorem dX6_come_67 : decode cX6_come 67 = .ok (.aload_n 0, 1) := by decide +kernel
theorem dX6_come_68 : decode cX6_come 68 = .ok (.getfield 13, 3) := by decide +kernel
theorem dX6_come_71 : decode cX6_come 71 = .ok (.iconst 0, 1) := by decide +kernel
theorem dX6_come_72 : decode cX6_come 72 = .ok (.iaload, 1) := by decide +kernel
theorem dX6_come_73 : decode cX6_come 73 = .ok (.sipush 10000, 3) := by decide +kernel
theorem dX6_come_76 : decode cX6_come 76 = .ok (.if_icmp .ge 7, 3) := by decide +kernel
theorem dX6_come_79 : decode cX6_come 79 = .ok (.iconst 1, 1) := by decide +kernel
theorem dX6_come_80 : decode cX6_come 80 = .ok (.goto 4, 3) := by decide +kernel
theorem dX6_come_83 : decode cX6_come 83 = .ok (.iconst 0, 1) := by decide +kernel
theorem dX6_come_84 : decode cX6_come 84 = .ok (.istore_n 1, 1) := by decide +kernel
theorem dX6_come_85 : decode cX6_come 85 = .ok (.iload_n 1, 1) := by decide +kernel
theorem dX6_come_86 : decode cX6_come 86 = .ok (.ifCond .eq 149, 3) := by decide +kernel
theorem dX6_come_89 : decode cX6_come 89 = .ok (.aload_n 0, 1) := by decide +kernel
theorem dX6_come_90 : decode cX6_come 90 = .ok (.sipush 4200, 3) := by decide +kernel
theorem dX6_come_93 : decode cX6_come 93 = .ok (.aload_n 0, 1) := by decide +kernel
theorem dX6_come_94 : decode cX6_come 94 = .ok (.getfield 92, 3) := by decide +kernel
theorem dX6_come_97 : decode cX6_come 97 = .ok (.aload_n 0, 1) := by decide +kernel
theorem dX6_come_98 : decode cX6_come 98 = .ok (.getfield 151, 3) := by decide +kernel
theorem dX6_come_101 : decode cX6_come 101 = .ok (.invokevirtual 154, 3) := by decide +kernel
theorem dX6_come_104 : decode cX6_come 104 = .ok (.aload_n 0, 1) := by decide +kernel
theorem dX6_come_105 : decode cX6_come 105 = .ok (.getfield 7, 3) := by decide +kernel
theorem dX6_come_108 : decode cX6_come 108 = .ok (.iconst 0, 1) := by decide +kernel
theorem dX6_come_109 : decode cX6_come 109 = .ok (.iaload, 1) := by decide +kernel
theorem dX6_come_110 : decode cX6_come 110 = .ok (.bipush 7, 2) := by decide +kernel
theorem dX6_come_112 : decode cX6_come 112 = .ok (.if_icmp .ne 12, 3) := by decide +kernel
theorem dX6_come_115 : decode cX6_come 115 = .ok (.aload_n 0, 1) := by decide +kernel
theorem dX6_come_116 : decode cX6_come 116 = .ok (.getfield 13, 3) := by decide +kernel
theorem dX6_come_119 : decode cX6_come 119 = .ok (.iconst 0, 1) := by decide +kernel
theorem dX6_come_120 : decode cX6_come 120 = .ok (.iaload, 1) := by decide +kernel
theorem dX6_come_121 : decode cX6_come 121 = .ok (.goto 4, 3) := by decide +kernel
theorem dX6_come_124 : decode cX6_come 124 = .ok (.iconst 0, 1) := by decide +kernel
theorem dX6_come_125 : decode cX6_come 125 = .ok (.istore_n 2, 1) := by decide +kernel
theorem dX6_come_126 : decode cX6_come 126 = .ok (.aload_n 0, 1) := by decide +kernel
theorem dX6_come_127 : decode cX6_come 127 = .ok (.invokevirtual 172, 3) := by decide +kernel
theorem dX6_come_130 : decode cX6_come 130 = .ok (.istore_n 3, 1) := by decide +kernel
theorem dX6_come_131 : decode cX6_come 131 = .ok (.iload_n 2, 1) := by decide +kernel
theorem dX6_come_132 : decode cX6_come 132 = .ok (.sipush (-10000), 3) := by decide +kernel
theorem dX6_come_135 : decode cX6_come 135 = .ok (.if_icmp .gt 7, 3) := by decide +kernel
theorem dX6_come_138 : decode cX6_come 138 = .ok (.iload_n 2, 1) := by decide +kernel
theorem dX6_come_139 : decode cX6_come 139 = .ok (.goto 18, 3) := by decide +kernel
theorem dX6_come_142 : decode cX6_come 142 = .ok (.iload_n 3, 1) := by decide +kernel
theorem dX6_come_143 : decode cX6_come 143 = .ok (.sipush 10000, 3) := by decide +kernel
theorem dX6_come_146 : decode cX6_come 146 = .ok (.if_icmp .ge 9, 3) := by decide +kernel
theorem dX6_come_149 : decode cX6_come 149 = .ok (.iload_n 3, 1) := by decide +kernel
theorem dX6_come_150 : decode cX6_come 150 = .ok (.iload_n 2, 1) := by decide +kernel
theorem dX6_come_151 : decode cX6_come 151 = .ok (.iadd, 1) := by decide +kernel
theorem dX6_come_152 : decode cX6_come 152 = .ok (.goto 5, 3) := by decide +kernel
theorem dX6_come_155 : decode cX6_come 155 = .ok (.ldc 175, 2) := by decide +kernel
theorem dX6_come_157 : decode cX6_come 157 = .ok (.istore 4, 2) := by decide +kernel
theorem dX6_come_159 : decode cX6_come 159 = .ok (.iload_n 3, 1) := by decide +kernel
theorem dX6_come_160 : decode cX6_come 160 = .ok (.ifCond .lt 33, 3) := by decide +kernel
theorem dX6_come_163 : decode cX6_come 163 = .ok (.aload_n 0, 1) := by decide +kernel
theorem dX6_come_164 : decode cX6_come 164 = .ok (.getfield 47, 3) := by decide +kernel
theorem dX6_come_167 : decode cX6_come 167 = .ok (.ifCond .lt 12, 3) := by decide +kernel
theorem dX6_come_170 : decode cX6_come 170 = .ok (.iload 4, 2) := by decide +kernel
theorem dX6_come_172 : decode cX6_come 172 = .ok (.aload_n 0, 1) := by decide +kernel
theorem dX6_come_173 : decode cX6_come 173 = .ok (.getfield 176, 3) := by decide +kernel
theorem dX6_come_176 : decode cX6_come 176 = .ok (.if_icmp .gt 17, 3) := by decide +kernel
theorem dX6_come_179 : decode cX6_come 179 = .ok (.aload_n 0, 1) := by decide +kernel
theorem dX6_come_180 : decode cX6_come 180 = .ok (.aload_n 0, 1) := by decide +kernel
theorem dX6_come_181 : decode cX6_come 181 = .ok (.getfield 92, 3) := by decide +kernel
theorem dX6_come_184 : decode cX6_come 184 = .ok (.putfield 47, 3) := by decide +kernel
theorem dX6_come_187 : decode cX6_come 187 = .ok (.aload_n 0, 1) := by decide +kernel
theorem dX6_come_188 : decode cX6_come 188 = .ok (.iload 4, 2) := by decide +kernel
theorem dX6_come_190 : decode cX6_come 190 = .ok (.putfield 176, 3) := by decide +kernel
theorem dX6_come_193 : decode cX6_come 193 = .ok (.iload_n 3, 1) := by decide +kernel
theorem dX6_come_194 : decode cX6_come 194 = .ok (.ifCond .lt 10, 3) := by decide +kernel
theorem dX6_come_197 : decode cX6_come 197 = .ok (.iload_n 2, 1) := by decide +kernel
theorem dX6_come_198 : decode cX6_come 198 = .ok (.sipush (-10000), 3) := by decide +kernel
theorem dX6_come_201 : decode cX6_come 201 = .ok (.if_icmp .gt 34, 3) := by decide +kernel
theorem dX6_come_204 : decode cX6_come 204 = .ok (.aload_n 0, 1) := by decide +kernel
theorem dX6_come_205 : decode cX6_come 205 = .ok (.aload_n 0, 1) := by decide +kernel
theorem dX6_come_206 : decode cX6_come 206 = .ok (.getfield 47, 3) := by decide +kernel
theorem dX6_come_209 : decode cX6_come 209 = .ok (.ifCond .ge 10, 3) := by decide +kernel
theorem dX6_come_212 : decode cX6_come 212 = .ok (.aload_n 0, 1) := by decide +kernel
theorem dX6_come_213 : decode cX6_come 213 = .ok (.getfield 92, 3) := by decide +kernel
theorem dX6_come_216 : decode cX6_come 216 = .ok (.goto 7, 3) := by decide +kernel
theorem dX6_come_219 : decode cX6_come 219 = .ok (.aload_n 0, 1) := by decide +kernel
theorem dX6_come_220 : decode cX6_come 220 = .ok (.getfield 47, 3) := by decide +kernel
theorem dX6_come_223 : decode cX6_come 223 = .ok (.invokevirtual 179, 3) := by decide +kernel
theorem dX6_come_226 : decode cX6_come 226 = .ok (.ifCond .eq 7, 3) := by decide +kernel
theorem dX6_come_229 : decode cX6_come 229 = .ok (.iconst 1, 1) := by decide +kernel
theorem dX6_come_230 : decode cX6_come 230 = .ok (.goto 4, 3) := by decide +kernel
theorem dX6_come_233 : decode cX6_come 233 = .ok (.iconst 2, 1) := by decide +kernel
theorem dX6_come_234 : decode cX6_come 234 = .ok (.ireturn, 1) := by decide +kernel
theorem dX6_come_235 : decode cX6_come 235 = .ok (.aload_n 0, 1) := by decide +kernel
theorem dX6_come_236 : decode cX6_come 236 = .ok (.iconst 0, 1) := by decide +kernel
theorem dX6_come_237 : decode cX6_come 237 = .ok (.sipush 4200, 3) := by decide +kernel
theorem dX6_come_240 : decode cX6_come 240 = .ok (.aload_n 0, 1) := by decide +kernel
theorem dX6_come_241 : decode cX6_come 241 = .ok (.getfield 92, 3) := by decide +kernel
theorem dX6_come_244 : decode cX6_come 244 = .ok (.iadd, 1) := by decide +kernel
theorem dX6_come_245 : decode cX6_come 245 = .ok (.invokevirtual 110, 3) := by decide +kernel
theorem dX6_come_248 : decode cX6_come 248 = .ok (.aload_n 0, 1) := by decide +kernel
theorem dX6_come_249 : decode cX6_come 249 = .ok (.dup, 1) := by decide +kernel
theorem dX6_come_250 : decode cX6_come 250 = .ok (.getfield 92, 3) := by decide +kernel
theorem dX6_come_253 : decode cX6_come 253 = .ok (.iconst 1, 1) := by decide +kernel
theorem dX6_come_254 : decode cX6_come 254 = .ok (.iadd, 1) := by decide +kernel
theorem dX6_come_255 : decode cX6_come 255 = .ok (.putfield 92, 3) := by decide +kernel
theorem dX6_come_258 : decode cX6_come 258 = .ok (.aload_n 0, 1) := by decide +kernel
theorem dX6_come_259 : decode cX6_come 259 = .ok (.iconst 1, 1) := by decide +kernel
theorem dX6_come_260 : decode cX6_come 260 = .ok (.invokevirtual 182, 3) := by decide +kernel
theorem dX6_come_263 : decode cX6_come 263 = .ok (.iconst 0, 1) := by decide +kernel
theorem dX6_come_264 : decode cX6_come 264 = .ok (.ireturn, 1) := by decide +kernel
set_option maxRecDepth 20000 in
theorem ggX6_build_X6_isSolid : GoodIn wsX6_build wsX6_isSolid := goodIn_r _ [12, 4, 103, 104, 105, 106, 107, 108, 109, 110, 111, 112, 113, 114, 115, 116, 117, 118, 119, 120, 121, 122, 123, 124, 125, 126, 127, 128, 129, 130, 131, 132, 133, 134] rfl (by decide +kernel)
set_option maxRecDepth 20000 in
theorem gX6_build_X6_isSolid : GoodIn wsX6_build (wsV RX6 127 RX6 yX6_isSolid wsX6_isSolid) := goodIn_app (goodIn_of _ (by decide +kernel)) ggX6_build_X6_isSolid
set_option maxRecDepth 20000 in
theorem ggX6_build_X6_take : GoodIn wsX6_build wsX6_take := goodIn_r _ [16, 3, 17, 18, 19, 11, 20, 4, 21, 22, 23, 24, 25, 26, 27, 28, 29, 30, 31, 103, 104, 105, 106, 107, 108, 109, 110, 111, 112, 113, 114, 115, 116, 117, 118, 119, 120, 121, 122, 123, 124, 125, 126, 127, 128, 129, 130, 131, 132, 133, 134] rfl (by decide +kernel)
set_option maxRecDepth 20000 in
theorem gX6_build_X6_take : GoodIn wsX6_build (wsV RX6 182 RX6 yX6_take wsX6_take) := goodIn_app (goodIn_of _ (by decide +kernel)) ggX6_build_X6_take
set_option maxRecDepth 20000 in
theorem ggX6_build_X6_begin : GoodIn wsX6_build wsX6_begin := goodIn_r _ [35, 36, 37, 38, 39, 7, 40, 22, 41, 42, 43, 5, 28, 29, 30, 11, 31, 4, 21, 23, 24, 25, 26, 27, 103, 104, 105, 106, 107, 108, 109, 110, 111, 112, 113, 114, 115, 116, 117, 118, 119, 120, 121, 122, 123, 124, 125, 126, 127, 128, 129, 130, 131, 132, 133, 134] rfl (by decide +kernel)
set_option maxRecDepth 20000 in
theorem gX6_build_X6_begin : GoodIn wsX6_build (wsV RX6 186 RX6 yX6_begin wsX6_begin) := goodIn_app (goodIn_of _ (by decide +kernel)) ggX6_build_X6_begin
set_option maxRecDepth 20000 in
theorem ggX6_build_X6_come : GoodIn wsX6_build wsX6_come := goodIn_r _ [47, 4, 5, 21, 39, 48, 7, 49, 8, 9, 10, 11, 12, 50, 51, 52, 53, 54, 55, 56, 57, 58, 22, 23, 25, 24, 26, 59, 60, 61, 62, 37, 63, 64, 65, 66, 67, 68, 69, 70, 71, 72, 73, 6, 74, 75, 76, 77, 2, 3, 78, 79, 80, 81, 82, 83, 84, 85, 86, 27, 87, 88, 89, 90, 91, 92, 93, 94, 95, 96, 97, 98, 17, 18, 19, 20, 28, 29, 30, 31, 13, 14, 15, 16, 103, 104, 105, 106, 107, 108, 109, 110, 111, 112, 113, 114, 115, 116, 117, 118, 119, 120, 121, 122, 123, 124, 125, 126, 127, 128, 129, 130, 131, 132, 133, 134] rfl (by decide +kernel)
set_option maxRecDepth 20000 in
theorem gX6_build_X6_come : GoodIn wsX6_build (wsV RX6 189 RX6 yX6_come wsX6_come) := goodIn_app (goodIn_of _ (by decide +kernel)) ggX6_build_X6_come
set_option maxRecDepth 20000 in
theorem ggX6_build_X6_fails : GoodIn wsX6_build wsX6_fails := goodIn_r _ [102, 1, 103, 104, 105, 106, 107, 108, 109, 110, 111, 112, 113, 114, 115, 116, 117, 118, 119, 120, 121, 122, 123, 124, 125, 126, 127, 128, 129, 130, 131, 132, 133, 134] rfl (by decide +kernel)
set_option maxRecDepth 20000 in
theorem gX6_build_X6_fails : GoodIn wsX6_build (wsV RX6 192 RX6 yX6_fails wsX6_fails) := goodIn_app (goodIn_of _ (by decide +kernel)) ggX6_build_X6_fails
theorem dX6_build_0 : decode cX6_build 0 = .ok (.aload_n 0, 1) := by decide +kernel
theorem dX6_build_1 : decode cX6_build 1 = .ok (.iconst 0, 1) := by decide +kernel
theorem dX6_build_2 : decode cX6_build 2 = .ok (.putfield 54, 3) := by decide +kernel
theorem dX6_build_5 : decode cX6_build 5 = .ok (.aload_n 0, 1) := by decide +kernel
theorem dX6_build_6 : decode cX6_build 6 = .ok (.getfield 169, 3) := by decide +kernel
theorem dX6_build_9 : decode cX6_build 9 = .ok (.istore_n 1, 1) := by decide +kernel
theorem dX6_build_10 : decode cX6_build 10 = .ok (.aload_n 0, 1) := by decide +kernel
theorem dX6_build_11 : decode cX6_build 11 = .ok (.getfield 89, 3) := by decide +kernel
theorem dX6_build_14 : decode cX6_build 14 = .ok (.ifCond .le 89, 3) := by decide +kernel
theorem dX6_build_17 : decode cX6_build 17 = .ok (.aload_n 0, 1) := by decide +kernel
theorem dX6_build_18 : decode cX6_build 18 = .ok (.getfield 89, 3) := by decide +kernel
theorem dX6_build_21 : decode cX6_build 21 = .ok (.iconst 1, 1) := by decide +kernel
theorem dX6_build_22 : decode cX6_build 22 = .ok (.if_icmp .ne 14, 3) := by decide +kernel
theorem dX6_build_25 : decode cX6_build 25 = .ok (.aload_n 0, 1) := by decide +kernel
theorem dX6_build_26 : decode cX6_build 26 = .ok (.getfield 7, 3) := by decide +kernel
theorem dX6_build_29 : decode cX6_build 29 = .ok (.iconst 0, 1) := by decide +kernel
theorem dX6_build_30 : decode cX6_build 30 = .ok (.iaload, 1) := by decide +kernel
theorem dX6_build_31 : decode cX6_build 31 = .ok (.bipush 6, 2) := by decide +kernel
theorem dX6_build_33 : decode cX6_build 33 = .ok (.if_icmp .eq 70, 3) := by decide +kernel
theorem dX6_build_36 : decode cX6_build 36 = .ok (.aload_n 0, 1) := by decide +kernel
theorem dX6_build_37 : decode cX6_build 37 = .ok (.getfield 92, 3) := by decide +kernel
theorem dX6_build_40 : decode cX6_build 40 = .ok (.ifCond .ne 19, 3) := by decide +kernel
theorem dX6_build_43 : decode cX6_build 43 = .ok (.aload_n 0, 1) := by decide +kernel
theorem dX6_build_44 : decode cX6_build 44 = .ok (.iconst 0, 1) := by decide +kernel
theorem dX6_build_45 : decode cX6_build 45 = .ok (.invokevirtual 127, 3) := by decide +kernel
theorem dX6_build_48 : decode cX6_build 48 = .ok (.ifCond .ne 11, 3) := by decide +kernel
theorem dX6_build_51 : decode cX6_build 51 = .ok (.aload_n 0, 1) := by decide +kernel
theorem dX6_build_52 : decode cX6_build 52 = .ok (.iconst 1, 1) := by decide +kernel
theorem dX6_build_53 : decode cX6_build 53 = .ok (.invokevirtual 182, 3) := by decide +kernel
theorem dX6_build_56 : decode cX6_build 56 = .ok (.goto (-46), 3) := by decide +kernel
theorem dX6_build_59 : decode cX6_build 59 = .ok (.aload_n 0, 1) := by decide +kernel
theorem dX6_build_60 : decode cX6_build 60 = .ok (.getfield 92, 3) := by decide +kernel
theorem dX6_build_63 : decode cX6_build 63 = .ok (.ifCond .ne 7, 3) := by decide +kernel
theorem dX6_build_66 : decode cX6_build 66 = .ok (.aload_n 0, 1) := by decide +kernel
theorem dX6_build_67 : decode cX6_build 67 = .ok (.invokevirtual 186, 3) := by decide +kernel
theorem dX6_build_70 : decode cX6_build 70 = .ok (.aload_n 0, 1) := by decide +kernel
theorem dX6_build_71 : decode cX6_build 71 = .ok (.invokevirtual 189, 3) := by decide +kernel
theorem dX6_build_74 : decode cX6_build 74 = .ok (.iconst 2, 1) := by decide +kernel
theorem dX6_build_75 : decode cX6_build 75 = .ok (.if_icmp .ne (-65), 3) := by decide +kernel
theorem dX6_build_78 : decode cX6_build 78 = .ok (.aload_n 0, 1) := by decide +kernel
theorem dX6_build_79 : decode cX6_build 79 = .ok (.iconst 0, 1) := by decide +kernel
theorem dX6_build_80 : decode cX6_build 80 = .ok (.putfield 89, 3) := by decide +kernel
theorem dX6_build_83 : decode cX6_build 83 = .ok (.aload_n 0, 1) := by decide +kernel
theorem dX6_build_84 : decode cX6_build 84 = .ok (.iconst 0, 1) := by decide +kernel
theorem dX6_build_85 : decode cX6_build 85 = .ok (.putfield 92, 3) := by decide +kernel
theorem dX6_build_88 : decode cX6_build 88 = .ok (.aload_n 0, 1) := by decide +kernel
theorem dX6_build_89 : decode cX6_build 89 = .ok (.iconst 0, 1) := by decide +kernel
theorem dX6_build_90 : decode cX6_build 90 = .ok (.putfield 95, 3) := by decide +kernel
theorem dX6_build_93 : decode cX6_build 93 = .ok (.aload_n 0, 1) := by decide +kernel
theorem dX6_build_94 : decode cX6_build 94 = .ok (.iconst (-1), 1) := by decide +kernel
theorem dX6_build_95 : decode cX6_build 95 = .ok (.putfield 47, 3) := by decide +kernel
theorem dX6_build_98 : decode cX6_build 98 = .ok (.aload_n 0, 1) := by decide +kernel
theorem dX6_build_99 : decode cX6_build 99 = .ok (.invokevirtual 192, 3) := by decide +kernel
theorem dX6_build_102 : decode cX6_build 102 = .ok (.ireturn, 1) := by decide +kernel
theorem dX6_build_103 : decode cX6_build 103 = .ok (.aload_n 0, 1) := by decide +kernel
theorem dX6_build_104 : decode cX6_build 104 = .ok (.getfield 169, 3) := by decide +kernel
theorem dX6_build_107 : decode cX6_build 107 = .ok (.iload_n 1, 1) := by decide +kernel
theorem dX6_build_108 : decode cX6_build 108 = .ok (.isub, 1) := by decide +kernel
theorem dX6_build_109 : decode cX6_build 109 = .ok (.ireturn, 1) := by decide +kernel
set_option maxRecDepth 20000 in
theorem ggX6_about_X6_fails : GoodIn wsX6_about wsX6_fails := goodIn_r _ [11, 2, 12, 13, 14, 15, 16, 17, 18, 19, 20, 21, 22, 23, 24, 25, 26, 27, 28, 29, 30, 31, 32, 33, 34, 35, 36, 37, 38, 39, 40, 41, 42, 43] rfl (by decide +kernel)
set_option maxRecDepth 20000 in
theorem gX6_about_X6_fails : GoodIn wsX6_about (wsV RX6 192 RX6 yX6_fails wsX6_fails) := goodIn_app (goodIn_of _ (by decide +kernel)) ggX6_about_X6_fails
theorem dX6_about_0 : decode cX6_about 0 = .ok (.iload_n 1, 1) := by decide +kernel
theorem dX6_about_1 : decode cX6_about 1 = .ok (.ifCond .lt 20, 3) := by decide +kernel
theorem dX6_about_4 : decode cX6_about 4 = .ok (.iload_n 1, 1) := by decide +kernel
theorem dX6_about_5 : decode cX6_about 5 = .ok (.aload_n 0, 1) := by decide +kernel
theorem dX6_about_6 : decode cX6_about 6 = .ok (.getfield 95, 3) := by decide +kernel
theorem dX6_about_9 : decode cX6_about 9 = .ok (.if_icmp .ge 12, 3) := by decide +kernel
theorem dX6_about_12 : decode cX6_about 12 = .ok (.iload_n 2, 1) := by decide +kernel
theorem dX6_about_13 : decode cX6_about 13 = .ok (.ifCond .lt 8, 3) := by decide +kernel
theorem dX6_about_16 : decode cX6_about 16 = .ok (.iload_n 2, 1) := by decide +kernel
theorem dX6_about_17 : decode cX6_about 17 = .ok (.iconst 3, 1) := by decide +kernel
theorem dX6_about_18 : decode cX6_about 18 = .ok (.if_icmp .le 8, 3) := by decide +kernel
theorem dX6_about_21 : decode cX6_about 21 = .ok (.aload_n 0, 1) := by decide +kernel
theorem dX6_about_22 : decode cX6_about 22 = .ok (.invokevirtual 192, 3) := by decide +kernel
theorem dX6_about_25 : decode cX6_about 25 = .ok (.ireturn, 1) := by decide +kernel
theorem dX6_about_26 : decode cX6_about 26 = .ok (.aload_n 0, 1) := by decide +kernel
theorem dX6_about_27 : decode cX6_about 27 = .ok (.iconst 0, 1) := by decide +kernel
theorem dX6_about_28 : decode cX6_about 28 = .ok (.putfield 54, 3) := by decide +kernel
theorem dX6_about_31 : decode cX6_about 31 = .ok (.aload_n 0, 1) := by decide +kernel
theorem dX6_about_32 : decode cX6_about 32 = .ok (.getfield 95, 3) := by decide +kernel
theorem dX6_about_35 : decode cX6_about 35 = .ok (.iconst 1, 1) := by decide +kernel
theorem dX6_about_36 : decode cX6_about 36 = .ok (.isub, 1) := by decide +kernel
theorem dX6_about_37 : decode cX6_about 37 = .ok (.iload_n 1, 1) := by decide +kernel
theorem dX6_about_38 : decode cX6_about 38 = .ok (.isub, 1) := by decide +kernel
theorem dX6_about_39 : decode cX6_about 39 = .ok (.istore_n 3, 1) := by decide +kernel
theorem dX6_about_40 : decode cX6_about 40 = .ok (.iload_n 2, 1) := by decide +kernel
theorem dX6_about_41 : decode cX6_about 41 = .ok (.ifCond .ne 12, 3) := by decide +kernel
theorem dX6_about_44 : decode cX6_about 44 = .ok (.aload_n 0, 1) := by decide +kernel
theorem dX6_about_45 : decode cX6_about 45 = .ok (.getfield 38, 3) := by decide +kernel
theorem dX6_about_48 : decode cX6_about 48 = .ok (.iload_n 3, 1) := by decide +kernel
theorem dX6_about_49 : decode cX6_about 49 = .ok (.iaload, 1) := by decide +kernel
theorem dX6_about_50 : decode cX6_about 50 = .ok (.goto 37, 3) := by decide +kernel
theorem dX6_about_53 : decode cX6_about 53 = .ok (.iload_n 2, 1) := by decide +kernel
theorem dX6_about_54 : decode cX6_about 54 = .ok (.iconst 1, 1) := by decide +kernel
theorem dX6_about_55 : decode cX6_about 55 = .ok (.if_icmp .ne 12, 3) := by decide +kernel
theorem dX6_about_58 : decode cX6_about 58 = .ok (.aload_n 0, 1) := by decide +kernel
theorem dX6_about_59 : decode cX6_about 59 = .ok (.getfield 41, 3) := by decide +kernel
theorem dX6_about_62 : decode cX6_about 62 = .ok (.iload_n 3, 1) := by decide +kernel
theorem dX6_about_63 : decode cX6_about 63 = .ok (.iaload, 1) := by decide +kernel
theorem dX6_about_64 : decode cX6_about 64 = .ok (.goto 23, 3) := by decide +kernel
theorem dX6_about_67 : decode cX6_about 67 = .ok (.iload_n 2, 1) := by decide +kernel
theorem dX6_about_68 : decode cX6_about 68 = .ok (.iconst 2, 1) := by decide +kernel
theorem dX6_about_69 : decode cX6_about 69 = .ok (.if_icmp .ne 12, 3) := by decide +kernel
theorem dX6_about_72 : decode cX6_about 72 = .ok (.aload_n 0, 1) := by decide +kernel
theorem dX6_about_73 : decode cX6_about 73 = .ok (.getfield 44, 3) := by decide +kernel
theorem dX6_about_76 : decode cX6_about 76 = .ok (.iload_n 3, 1) := by decide +kernel
theorem dX6_about_77 : decode cX6_about 77 = .ok (.iaload, 1) := by decide +kernel
theorem dX6_about_78 : decode cX6_about 78 = .ok (.goto 9, 3) := by decide +kernel
theorem dX6_about_81 : decode cX6_about 81 = .ok (.aload_n 0, 1) := by decide +kernel
theorem dX6_about_82 : decode cX6_about 82 = .ok (.getfield 35, 3) := by decide +kernel
theorem dX6_about_85 : decode cX6_about 85 = .ok (.iload_n 3, 1) := by decide +kernel
theorem dX6_about_86 : decode cX6_about 86 = .ok (.iaload, 1) := by decide +kernel
theorem dX6_about_87 : decode cX6_about 87 = .ok (.ireturn, 1) := by decide +kernel
set_option maxRecDepth 20000 in
theorem ggX6_item_X6_fails : GoodIn wsX6_item wsX6_fails := goodIn_r _ [15, 3, 16, 17, 18, 19, 20, 21, 22, 23, 24, 25, 26, 27, 28, 29, 30, 31, 32, 33, 34, 35, 36, 37, 38, 39, 40, 41, 42, 43, 44, 45, 46, 47] rfl (by decide +kernel)
set_option maxRecDepth 20000 in
theorem gX6_item_X6_fails : GoodIn wsX6_item (wsV RX6 192 RX6 yX6_fails wsX6_fails) := goodIn_app (goodIn_of _ (by decide +kernel)) ggX6_item_X6_fails
theorem dX6_item_0 : decode cX6_item 0 = .ok (.iload_n 1, 1) := by decide +kernel
theorem dX6_item_1 : decode cX6_item 1 = .ok (.ifCond .lt 20, 3) := by decide +kernel
theorem dX6_item_4 : decode cX6_item 4 = .ok (.iload_n 1, 1) := by decide +kernel
theorem dX6_item_5 : decode cX6_item 5 = .ok (.aload_n 0, 1) := by decide +kernel
theorem dX6_item_6 : decode cX6_item 6 = .ok (.getfield 95, 3) := by decide +kernel
theorem dX6_item_9 : decode cX6_item 9 = .ok (.if_icmp .ge 12, 3) := by decide +kernel
theorem dX6_item_12 : decode cX6_item 12 = .ok (.iload_n 3, 1) := by decide +kernel
theorem dX6_item_13 : decode cX6_item 13 = .ok (.ifCond .lt 8, 3) := by decide +kernel
theorem dX6_item_16 : decode cX6_item 16 = .ok (.iload_n 3, 1) := by decide +kernel
theorem dX6_item_17 : decode cX6_item 17 = .ok (.iconst 3, 1) := by decide +kernel
theorem dX6_item_18 : decode cX6_item 18 = .ok (.if_icmp .le 8, 3) := by decide +kernel
theorem dX6_item_21 : decode cX6_item 21 = .ok (.aload_n 0, 1) := by decide +kernel
theorem dX6_item_22 : decode cX6_item 22 = .ok (.invokevirtual 192, 3) := by decide +kernel
theorem dX6_item_25 : decode cX6_item 25 = .ok (.ireturn, 1) := by decide +kernel
theorem dX6_item_26 : decode cX6_item 26 = .ok (.aload_n 0, 1) := by decide +kernel
theorem dX6_item_27 : decode cX6_item 27 = .ok (.getfield 95, 3) := by decide +kernel
theorem dX6_item_30 : decode cX6_item 30 = .ok (.iconst 1, 1) := by decide +kernel
theorem dX6_item_31 : decode cX6_item 31 = .ok (.isub, 1) := by decide +kernel
theorem dX6_item_32 : decode cX6_item 32 = .ok (.iload_n 1, 1) := by decide +kernel
theorem dX6_item_33 : decode cX6_item 33 = .ok (.isub, 1) := by decide +kernel
theorem dX6_item_34 : decode cX6_item 34 = .ok (.istore 4, 2) := by decide +kernel
theorem dX6_item_36 : decode cX6_item 36 = .ok (.iload_n 2, 1) := by decide +kernel
theorem dX6_item_37 : decode cX6_item 37 = .ok (.ifCond .lt 14, 3) := by decide +kernel
theorem dX6_item_40 : decode cX6_item 40 = .ok (.iload_n 2, 1) := by decide +kernel
theorem dX6_item_41 : decode cX6_item 41 = .ok (.aload_n 0, 1) := by decide +kernel
theorem dX6_item_42 : decode cX6_item 42 = .ok (.getfield 35, 3) := by decide +kernel
theorem dX6_item_45 : decode cX6_item 45 = .ok (.iload 4, 2) := by decide +kernel
theorem dX6_item_47 : decode cX6_item 47 = .ok (.iaload, 1) := by decide +kernel
theorem dX6_item_48 : decode cX6_item 48 = .ok (.if_icmp .lt 8, 3) := by decide +kernel
theorem dX6_item_51 : decode cX6_item 51 = .ok (.aload_n 0, 1) := by decide +kernel
theorem dX6_item_52 : decode cX6_item 52 = .ok (.invokevirtual 192, 3) := by decide +kernel
theorem dX6_item_55 : decode cX6_item 55 = .ok (.ireturn, 1) := by decide +kernel
theorem dX6_item_56 : decode cX6_item 56 = .ok (.aload_n 0, 1) := by decide +kernel
theorem dX6_item_57 : decode cX6_item 57 = .ok (.iconst 0, 1) := by decide +kernel
theorem dX6_item_58 : decode cX6_item 58 = .ok (.putfield 54, 3) := by decide +kernel
theorem dX6_item_61 : decode cX6_item 61 = .ok (.sipush 8400, 3) := by decide +kernel
theorem dX6_item_64 : decode cX6_item 64 = .ok (.iload_n 2, 1) := by decide +kernel
theorem dX6_item_65 : decode cX6_item 65 = .ok (.iadd, 1) := by decide +kernel
theorem dX6_item_66 : decode cX6_item 66 = .ok (.istore 5, 2) := by decide +kernel
theorem dX6_item_68 : decode cX6_item 68 = .ok (.iconst 0, 1) := by decide +kernel
theorem dX6_item_69 : decode cX6_item 69 = .ok (.istore 6, 2) := by decide +kernel
theorem dX6_item_71 : decode cX6_item 71 = .ok (.iload 6, 2) := by decide +kernel
theorem dX6_item_73 : decode cX6_item 73 = .ok (.iload 4, 2) := by decide +kernel
theorem dX6_item_75 : decode cX6_item 75 = .ok (.if_icmp .ge 21, 3) := by decide +kernel
theorem dX6_item_78 : decode cX6_item 78 = .ok (.iload 5, 2) := by decide +kernel
theorem dX6_item_80 : decode cX6_item 80 = .ok (.aload_n 0, 1) := by decide +kernel
theorem dX6_item_81 : decode cX6_item 81 = .ok (.getfield 35, 3) := by decide +kernel
theorem dX6_item_84 : decode cX6_item 84 = .ok (.iload 6, 2) := by decide +kernel
theorem dX6_item_86 : decode cX6_item 86 = .ok (.iaload, 1) := by decide +kernel
theorem dX6_item_87 : decode cX6_item 87 = .ok (.iadd, 1) := by decide +kernel
theorem dX6_item_88 : decode cX6_item 88 = .ok (.istore 5, 2) := by decide +kernel
theorem dX6_item_90 : decode cX6_item 90 = .ok (.iinc 6 1, 3) := by decide +kernel
theorem dX6_item_93 : decode cX6_item 93 = .ok (.goto (-22), 3) := by decide +kernel
theorem dX6_item_96 : decode cX6_item 96 = .ok (.aload_n 0, 1) := by decide +kernel
theorem dX6_item_97 : decode cX6_item 97 = .ok (.getfield 13, 3) := by decide +kernel
theorem dX6_item_100 : decode cX6_item 100 = .ok (.iload 5, 2) := by decide +kernel
theorem dX6_item_102 : decode cX6_item 102 = .ok (.iaload, 1) := by decide +kernel
theorem dX6_item_103 : decode cX6_item 103 = .ok (.i2l, 1) := by decide +kernel
theorem dX6_item_104 : decode cX6_item 104 = .ok (.aload_n 0, 1) := by decide +kernel
theorem dX6_item_105 : decode cX6_item 105 = .ok (.getfield 31, 3) := by decide +kernel
theorem dX6_item_108 : decode cX6_item 108 = .ok (.iload 5, 2) := by decide +kernel
theorem dX6_item_110 : decode cX6_item 110 = .ok (.laload, 1) := by decide +kernel
theorem dX6_item_111 : decode cX6_item 111 = .ok (.ladd, 1) := by decide +kernel
theorem dX6_item_112 : decode cX6_item 112 = .ok (.lstore 6, 2) := by decide +kernel
theorem dX6_item_114 : decode cX6_item 114 = .ok (.iload_n 3, 1) := by decide +kernel
theorem dX6_item_115 : decode cX6_item 115 = .ok (.ifCond .ne 13, 3) := by decide +kernel
theorem dX6_item_118 : decode cX6_item 118 = .ok (.aload_n 0, 1) := by decide +kernel
theorem dX6_item_119 : decode cX6_item 119 = .ok (.getfield 7, 3) := by decide +kernel
theorem dX6_item_122 : decode cX6_item 122 = .ok (.iload 5, 2) := by decide +kernel
theorem dX6_item_124 : decode cX6_item 124 = .ok (.iaload, 1) := by decide +kernel
theorem dX6_item_125 : decode cX6_item 125 = .ok (.goto 77, 3) := by decide +kernel
theorem dX6_item_128 : decode cX6_item 128 = .ok (.iload_n 3, 1) := by decide +kernel
theorem dX6_item_129 : decode cX6_item 129 = .ok (.iconst 1, 1) := by decide +kernel
theorem dX6_item_130 : decode cX6_item 130 = .ok (.if_icmp .ne 50, 3) := by decide +kernel
theorem dX6_item_133 : decode cX6_item 133 = .ok (.lload 6, 2) := by decide +kernel
theorem dX6_item_135 : decode cX6_item 135 = .ok (.ldc2_w 195, 3) := by decide +kernel
theorem dX6_item_138 : decode cX6_item 138 = .ok (.lcmp, 1) := by decide +kernel
theorem dX6_item_139 : decode cX6_item 139 = .ok (.ifCond .le 9, 3) := by decide +kernel
theorem dX6_item_142 : decode cX6_item 142 = .ok (.ldc2_w 195, 3) := by decide +kernel
theorem dX6_item_145 : decode cX6_item 145 = .ok (.goto 31, 3) := by decide +kernel
theorem dX6_item_148 : decode cX6_item 148 = .ok (.aload_n 0, 1) := by decide +kernel
theorem dX6_item_149 : decode cX6_item 149 = .ok (.getfield 7, 3) := by decide +kernel
theorem dX6_item_152 : decode cX6_item 152 = .ok (.iload 5, 2) := by decide +kernel
theorem dX6_item_154 : decode cX6_item 154 = .ok (.iaload, 1) := by decide +kernel
theorem dX6_item_155 : decode cX6_item 155 = .ok (.iconst 5, 1) := by decide +kernel
theorem dX6_item_156 : decode cX6_item 156 = .ok (.if_icmp .ne 18, 3) := by decide +kernel
theorem dX6_item_159 : decode cX6_item 159 = .ok (.lload 6, 2) := by decide +kernel
theorem dX6_item_161 : decode cX6_item 161 = .ok (.ldc2_w 197, 3) := by decide +kernel
theorem dX6_item_164 : decode cX6_item 164 = .ok (.lcmp, 1) := by decide +kernel
theorem dX6_item_165 : decode cX6_item 165 = .ok (.ifCond .ge 9, 3) := by decide +kernel
theorem dX6_item_168 : decode cX6_item 168 = .ok (.ldc2_w 197, 3) := by decide +kernel
theorem dX6_item_171 : decode cX6_item 171 = .ok (.goto 5, 3) := by decide +kernel
theorem dX6_item_174 : decode cX6_item 174 = .ok (.lload 6, 2) := by decide +kernel
theorem dX6_item_176 : decode cX6_item 176 = .ok (.l2i, 1) := by decide +kernel
theorem dX6_item_177 : decode cX6_item 177 = .ok (.goto 25, 3) := by decide +kernel
theorem dX6_item_180 : decode cX6_item 180 = .ok (.iload_n 3, 1) := by decide +kernel
theorem dX6_item_181 : decode cX6_item 181 = .ok (.iconst 2, 1) := by decide +kernel
theorem dX6_item_182 : decode cX6_item 182 = .ok (.if_icmp .ne 13, 3) := by decide +kernel
theorem dX6_item_185 : decode cX6_item 185 = .ok (.aload_n 0, 1) := by decide +kernel
theorem dX6_item_186 : decode cX6_item 186 = .ok (.getfield 16, 3) := by decide +kernel
theorem dX6_item_189 : decode cX6_item 189 = .ok (.iload 5, 2) := by decide +kernel
theorem dX6_item_191 : decode cX6_item 191 = .ok (.iaload, 1) := by decide +kernel
theorem dX6_item_192 : decode cX6_item 192 = .ok (.goto 10, 3) := by decide +kernel
theorem dX6_item_195 : decode cX6_item 195 = .ok (.aload_n 0, 1) := by decide +kernel
theorem dX6_item_196 : decode cX6_item 196 = .ok (.getfield 19, 3) := by decide +kernel
theorem dX6_item_199 : decode cX6_item 199 = .ok (.iload 5, 2) := by decide +kernel
theorem dX6_item_201 : decode cX6_item 201 = .ok (.iaload, 1) := by decide +kernel
theorem dX6_item_202 : decode cX6_item 202 = .ok (.ireturn, 1) := by decide +kernel
theorem dX6_count_0 : decode cX6_count 0 = .ok (.aload_n 0, 1) := by decide +kernel
theorem dX6_count_1 : decode cX6_count 1 = .ok (.iconst 0, 1) := by decide +kernel
theorem dX6_count_2 : decode cX6_count 2 = .ok (.putfield 54, 3) := by decide +kernel
theorem dX6_count_5 : decode cX6_count 5 = .ok (.iload_n 1, 1) := by decide +kernel
theorem dX6_count_6 : decode cX6_count 6 = .ok (.ifCond .ne 10, 3) := by decide +kernel
theorem dX6_count_9 : decode cX6_count 9 = .ok (.aload_n 0, 1) := by decide +kernel
theorem dX6_count_10 : decode cX6_count 10 = .ok (.getfield 169, 3) := by decide +kernel
theorem dX6_count_13 : decode cX6_count 13 = .ok (.goto 48, 3) := by decide +kernel
theorem dX6_count_16 : decode cX6_count 16 = .ok (.iload_n 1, 1) := by decide +kernel
theorem dX6_count_17 : decode cX6_count 17 = .ok (.iconst 1, 1) := by decide +kernel
theorem dX6_count_18 : decode cX6_count 18 = .ok (.if_icmp .ne 10, 3) := by decide +kernel
theorem dX6_count_21 : decode cX6_count 21 = .ok (.aload_n 0, 1) := by decide +kernel
theorem dX6_count_22 : decode cX6_count 22 = .ok (.getfield 89, 3) := by decide +kernel
theorem dX6_count_25 : decode cX6_count 25 = .ok (.goto 36, 3) := by decide +kernel
theorem dX6_count_28 : decode cX6_count 28 = .ok (.iload_n 1, 1) := by decide +kernel
theorem dX6_count_29 : decode cX6_count 29 = .ok (.iconst 2, 1) := by decide +kernel
theorem dX6_count_30 : decode cX6_count 30 = .ok (.if_icmp .ne 10, 3) := by decide +kernel
theorem dX6_count_33 : decode cX6_count 33 = .ok (.aload_n 0, 1) := by decide +kernel
theorem dX6_count_34 : decode cX6_count 34 = .ok (.getfield 92, 3) := by decide +kernel
theorem dX6_count_37 : decode cX6_count 37 = .ok (.goto 24, 3) := by decide +kernel
theorem dX6_count_40 : decode cX6_count 40 = .ok (.iload_n 1, 1) := by decide +kernel
theorem dX6_count_41 : decode cX6_count 41 = .ok (.iconst 3, 1) := by decide +kernel
theorem dX6_count_42 : decode cX6_count 42 = .ok (.if_icmp .ne 18, 3) := by decide +kernel
theorem dX6_count_45 : decode cX6_count 45 = .ok (.aload_n 0, 1) := by decide +kernel
theorem dX6_count_46 : decode cX6_count 46 = .ok (.getfield 47, 3) := by decide +kernel
theorem dX6_count_49 : decode cX6_count 49 = .ok (.ifCond .ge 7, 3) := by decide +kernel
theorem dX6_count_52 : decode cX6_count 52 = .ok (.iconst 0, 1) := by decide +kernel
theorem dX6_count_53 : decode cX6_count 53 = .ok (.goto 8, 3) := by decide +kernel
theorem dX6_count_56 : decode cX6_count 56 = .ok (.iconst 1, 1) := by decide +kernel
theorem dX6_count_57 : decode cX6_count 57 = .ok (.goto 4, 3) := by decide +kernel
theorem dX6_count_60 : decode cX6_count 60 = .ok (.iconst (-1), 1) := by decide +kernel
theorem dX6_count_61 : decode cX6_count 61 = .ok (.ireturn, 1) := by decide +kernel
set_option maxRecDepth 20000 in
theorem ggX6_sum_X6_sums : GoodIn wsX6_sum wsX6_sums := goodIn_r _ [14, 4, 5, 15, 6, 7, 16, 17, 18, 19, 20, 21, 22, 23, 24, 25, 13, 26, 27, 28, 29, 30, 31, 32, 33, 34, 35, 36, 37, 38, 39, 40, 41, 42, 43, 44, 45, 46, 47, 48, 49, 50, 51, 52, 53, 54, 55, 56, 57, 58] rfl (by decide +kernel)
set_option maxRecDepth 20000 in
theorem gX6_sum_X6_sums : GoodIn wsX6_sum (wsV RX6 154 RX6 yX6_sums wsX6_sums) := goodIn_app (goodIn_of _ (by decide +kernel)) ggX6_sum_X6_sums
theorem dX6_sum_0 : decode cX6_sum 0 = .ok (.aload_n 0, 1) := by decide +kernel
theorem dX6_sum_1 : decode cX6_sum 1 = .ok (.iconst 0, 1) := by decide +kernel
theorem dX6_sum_2 : decode cX6_sum 2 = .ok (.putfield 54, 3) := by decide +kernel
theorem dX6_sum_5 : decode cX6_sum 5 = .ok (.aload_n 0, 1) := by decide +kernel
theorem dX6_sum_6 : decode cX6_sum 6 = .ok (.getfield 92, 3) := by decide +kernel
theorem dX6_sum_9 : decode cX6_sum 9 = .ok (.ifCond .ne 5, 3) := by decide +kernel
theorem dX6_sum_12 : decode cX6_sum 12 = .ok (.lconst 0, 1) := by decide +kernel
theorem dX6_sum_13 : decode cX6_sum 13 = .ok (.lreturn, 1) := by decide +kernel
theorem dX6_sum_14 : decode cX6_sum 14 = .ok (.aload_n 0, 1) := by decide +kernel
theorem dX6_sum_15 : decode cX6_sum 15 = .ok (.sipush 4200, 3) := by decide +kernel
theorem dX6_sum_18 : decode cX6_sum 18 = .ok (.aload_n 0, 1) := by decide +kernel
theorem dX6_sum_19 : decode cX6_sum 19 = .ok (.getfield 92, 3) := by decide +kernel
theorem dX6_sum_22 : decode cX6_sum 22 = .ok (.aload_n 0, 1) := by decide +kernel
theorem dX6_sum_23 : decode cX6_sum 23 = .ok (.getfield 151, 3) := by decide +kernel
theorem dX6_sum_26 : decode cX6_sum 26 = .ok (.invokevirtual 154, 3) := by decide +kernel
theorem dX6_sum_29 : decode cX6_sum 29 = .ok (.iload_n 1, 1) := by decide +kernel
theorem dX6_sum_30 : decode cX6_sum 30 = .ok (.ifCond .ne 10, 3) := by decide +kernel
theorem dX6_sum_33 : decode cX6_sum 33 = .ok (.aload_n 0, 1) := by decide +kernel
theorem dX6_sum_34 : decode cX6_sum 34 = .ok (.getfield 114, 3) := by decide +kernel
theorem dX6_sum_37 : decode cX6_sum 37 = .ok (.goto 62, 3) := by decide +kernel
theorem dX6_sum_40 : decode cX6_sum 40 = .ok (.iload_n 1, 1) := by decide +kernel
theorem dX6_sum_41 : decode cX6_sum 41 = .ok (.iconst 1, 1) := by decide +kernel
theorem dX6_sum_42 : decode cX6_sum 42 = .ok (.if_icmp .ne 10, 3) := by decide +kernel
theorem dX6_sum_45 : decode cX6_sum 45 = .ok (.aload_n 0, 1) := by decide +kernel
theorem dX6_sum_46 : decode cX6_sum 46 = .ok (.getfield 118, 3) := by decide +kernel
theorem dX6_sum_49 : decode cX6_sum 49 = .ok (.goto 50, 3) := by decide +kernel
theorem dX6_sum_52 : decode cX6_sum 52 = .ok (.iload_n 1, 1) := by decide +kernel
theorem dX6_sum_53 : decode cX6_sum 53 = .ok (.iconst 2, 1) := by decide +kernel
theorem dX6_sum_54 : decode cX6_sum 54 = .ok (.if_icmp .ne 10, 3) := by decide +kernel
theorem dX6_sum_57 : decode cX6_sum 57 = .ok (.aload_n 0, 1) := by decide +kernel
theorem dX6_sum_58 : decode cX6_sum 58 = .ok (.getfield 124, 3) := by decide +kernel
theorem dX6_sum_61 : decode cX6_sum 61 = .ok (.goto 38, 3) := by decide +kernel
theorem dX6_sum_64 : decode cX6_sum 64 = .ok (.iload_n 1, 1) := by decide +kernel
theorem dX6_sum_65 : decode cX6_sum 65 = .ok (.iconst 3, 1) := by decide +kernel
theorem dX6_sum_66 : decode cX6_sum 66 = .ok (.if_icmp .ne 12, 3) := by decide +kernel
theorem dX6_sum_69 : decode cX6_sum 69 = .ok (.aload_n 0, 1) := by decide +kernel
theorem dX6_sum_70 : decode cX6_sum 70 = .ok (.getfield 51, 3) := by decide +kernel
theorem dX6_sum_73 : decode cX6_sum 73 = .ok (.iconst 0, 1) := by decide +kernel
theorem dX6_sum_74 : decode cX6_sum 74 = .ok (.laload, 1) := by decide +kernel
theorem dX6_sum_75 : decode cX6_sum 75 = .ok (.goto 24, 3) := by decide +kernel
theorem dX6_sum_78 : decode cX6_sum 78 = .ok (.iload_n 1, 1) := by decide +kernel
theorem dX6_sum_79 : decode cX6_sum 79 = .ok (.iconst 4, 1) := by decide +kernel
theorem dX6_sum_80 : decode cX6_sum 80 = .ok (.if_icmp .ne 18, 3) := by decide +kernel
theorem dX6_sum_83 : decode cX6_sum 83 = .ok (.aload_n 0, 1) := by decide +kernel
theorem dX6_sum_84 : decode cX6_sum 84 = .ok (.getfield 47, 3) := by decide +kernel
theorem dX6_sum_87 : decode cX6_sum 87 = .ok (.ifCond .lt 11, 3) := by decide +kernel
theorem dX6_sum_90 : decode cX6_sum 90 = .ok (.aload_n 0, 1) := by decide +kernel
theorem dX6_sum_91 : decode cX6_sum 91 = .ok (.getfield 176, 3) := by decide +kernel
theorem dX6_sum_94 : decode cX6_sum 94 = .ok (.i2l, 1) := by decide +kernel
theorem dX6_sum_95 : decode cX6_sum 95 = .ok (.goto 4, 3) := by decide +kernel
theorem dX6_sum_98 : decode cX6_sum 98 = .ok (.lconst 0, 1) := by decide +kernel
theorem dX6_sum_99 : decode cX6_sum 99 = .ok (.lreturn, 1) := by decide +kernel
theorem dJ9_floorMod_7cf53_0 : decode cJ9_floorMod_7cf53 0 = .ok (.iload_n 0, 1) := by decide +kernel
theorem dJ9_floorMod_7cf53_1 : decode cJ9_floorMod_7cf53 1 = .ok (.iload_n 1, 1) := by decide +kernel
theorem dJ9_floorMod_7cf53_2 : decode cJ9_floorMod_7cf53 2 = .ok (.irem, 1) := by decide +kernel
theorem dJ9_floorMod_7cf53_3 : decode cJ9_floorMod_7cf53 3 = .ok (.istore_n 2, 1) := by decide +kernel
theorem dJ9_floorMod_7cf53_4 : decode cJ9_floorMod_7cf53 4 = .ok (.iload_n 0, 1) := by decide +kernel
theorem dJ9_floorMod_7cf53_5 : decode cJ9_floorMod_7cf53 5 = .ok (.iload_n 1, 1) := by decide +kernel
theorem dJ9_floorMod_7cf53_6 : decode cJ9_floorMod_7cf53 6 = .ok (.ixor, 1) := by decide +kernel
theorem dJ9_floorMod_7cf53_7 : decode cJ9_floorMod_7cf53 7 = .ok (.ifCond .ge 11, 3) := by decide +kernel
theorem dJ9_floorMod_7cf53_10 : decode cJ9_floorMod_7cf53 10 = .ok (.iload_n 2, 1) := by decide +kernel
theorem dJ9_floorMod_7cf53_11 : decode cJ9_floorMod_7cf53 11 = .ok (.ifCond .eq 7, 3) := by decide +kernel
theorem dJ9_floorMod_7cf53_14 : decode cJ9_floorMod_7cf53 14 = .ok (.iload_n 2, 1) := by decide +kernel
theorem dJ9_floorMod_7cf53_15 : decode cJ9_floorMod_7cf53 15 = .ok (.iload_n 1, 1) := by decide +kernel
theorem dJ9_floorMod_7cf53_16 : decode cJ9_floorMod_7cf53 16 = .ok (.iadd, 1) := by decide +kernel
theorem dJ9_floorMod_7cf53_17 : decode cJ9_floorMod_7cf53 17 = .ok (.ireturn, 1) := by decide +kernel
theorem dJ9_floorMod_7cf53_18 : decode cJ9_floorMod_7cf53 18 = .ok (.iload_n 2, 1) := by decide +kernel
theorem dJ9_floorMod_7cf53_19 : decode cJ9_floorMod_7cf53 19 = .ok (.ireturn, 1) := by decide +kernel
theorem dJ9_abs_067f4_0 : decode cJ9_abs_067f4 0 = .ok (.lload_n 0, 1) := by decide +kernel
theorem dJ9_abs_067f4_1 : decode cJ9_abs_067f4 1 = .ok (.lconst 0, 1) := by decide +kernel
theorem dJ9_abs_067f4_2 : decode cJ9_abs_067f4 2 = .ok (.lcmp, 1) := by decide +kernel
theorem dJ9_abs_067f4_3 : decode cJ9_abs_067f4 3 = .ok (.ifCond .ge 8, 3) := by decide +kernel
theorem dJ9_abs_067f4_6 : decode cJ9_abs_067f4 6 = .ok (.lload_n 0, 1) := by decide +kernel
theorem dJ9_abs_067f4_7 : decode cJ9_abs_067f4 7 = .ok (.lneg, 1) := by decide +kernel
theorem dJ9_abs_067f4_8 : decode cJ9_abs_067f4 8 = .ok (.goto 4, 3) := by decide +kernel
theorem dJ9_abs_067f4_11 : decode cJ9_abs_067f4 11 = .ok (.lload_n 0, 1) := by decide +kernel
theorem dJ9_abs_067f4_12 : decode cJ9_abs_067f4 12 = .ok (.lreturn, 1) := by decide +kernel
theorem dJ9_max_7cf53_0 : decode cJ9_max_7cf53 0 = .ok (.iload_n 0, 1) := by decide +kernel
theorem dJ9_max_7cf53_1 : decode cJ9_max_7cf53 1 = .ok (.iload_n 1, 1) := by decide +kernel
theorem dJ9_max_7cf53_2 : decode cJ9_max_7cf53 2 = .ok (.if_icmp .lt 7, 3) := by decide +kernel
theorem dJ9_max_7cf53_5 : decode cJ9_max_7cf53 5 = .ok (.iload_n 0, 1) := by decide +kernel
theorem dJ9_max_7cf53_6 : decode cJ9_max_7cf53 6 = .ok (.goto 4, 3) := by decide +kernel
theorem dJ9_max_7cf53_9 : decode cJ9_max_7cf53 9 = .ok (.iload_n 1, 1) := by decide +kernel
theorem dJ9_max_7cf53_10 : decode cJ9_max_7cf53 10 = .ok (.ireturn, 1) := by decide +kernel
theorem dJ9_max_f86c9_0 : decode cJ9_max_f86c9 0 = .ok (.lload_n 0, 1) := by decide +kernel
theorem dJ9_max_f86c9_1 : decode cJ9_max_f86c9 1 = .ok (.lload_n 2, 1) := by decide +kernel
theorem dJ9_max_f86c9_2 : decode cJ9_max_f86c9 2 = .ok (.lcmp, 1) := by decide +kernel
theorem dJ9_max_f86c9_3 : decode cJ9_max_f86c9 3 = .ok (.ifCond .lt 7, 3) := by decide +kernel
theorem dJ9_max_f86c9_6 : decode cJ9_max_f86c9 6 = .ok (.lload_n 0, 1) := by decide +kernel
theorem dJ9_max_f86c9_7 : decode cJ9_max_f86c9 7 = .ok (.goto 4, 3) := by decide +kernel
theorem dJ9_max_f86c9_10 : decode cJ9_max_f86c9 10 = .ok (.lload_n 2, 1) := by decide +kernel
theorem dJ9_max_f86c9_11 : decode cJ9_max_f86c9 11 = .ok (.lreturn, 1) := by decide +kernel
theorem dJ9_min_7cf53_0 : decode cJ9_min_7cf53 0 = .ok (.iload_n 0, 1) := by decide +kernel
theorem dJ9_min_7cf53_1 : decode cJ9_min_7cf53 1 = .ok (.iload_n 1, 1) := by decide +kernel
theorem dJ9_min_7cf53_2 : decode cJ9_min_7cf53 2 = .ok (.if_icmp .gt 7, 3) := by decide +kernel
theorem dJ9_min_7cf53_5 : decode cJ9_min_7cf53 5 = .ok (.iload_n 0, 1) := by decide +kernel
theorem dJ9_min_7cf53_6 : decode cJ9_min_7cf53 6 = .ok (.goto 4, 3) := by decide +kernel
theorem dJ9_min_7cf53_9 : decode cJ9_min_7cf53 9 = .ok (.iload_n 1, 1) := by decide +kernel
theorem dJ9_min_7cf53_10 : decode cJ9_min_7cf53 10 = .ok (.ireturn, 1) := by decide +kernel
theorem dJ9_min_f86c9_0 : decode cJ9_min_f86c9 0 = .ok (.lload_n 0, 1) := by decide +kernel
theorem dJ9_min_f86c9_1 : decode cJ9_min_f86c9 1 = .ok (.lload_n 2, 1) := by decide +kernel
theorem dJ9_min_f86c9_2 : decode cJ9_min_f86c9 2 = .ok (.lcmp, 1) := by decide +kernel
theorem dJ9_min_f86c9_3 : decode cJ9_min_f86c9 3 = .ok (.ifCond .gt 7, 3) := by decide +kernel
theorem dJ9_min_f86c9_6 : decode cJ9_min_f86c9 6 = .ok (.lload_n 0, 1) := by decide +kernel
theorem dJ9_min_f86c9_7 : decode cJ9_min_f86c9 7 = .ok (.goto 4, 3) := by decide +kernel
theorem dJ9_min_f86c9_10 : decode cJ9_min_f86c9 10 = .ok (.lload_n 2, 1) := by decide +kernel
theorem dJ9_min_f86c9_11 : decode cJ9_min_f86c9 11 = .ok (.lreturn, 1) := by decide +kernel
theorem dJ7_fill_d0a16_0 : decode cJ7_fill_d0a16 0 = .ok (.iconst 0, 1) := by decide +kernel
theorem dJ7_fill_d0a16_1 : decode cJ7_fill_d0a16 1 = .ok (.istore_n 3, 1) := by decide +kernel
theorem dJ7_fill_d0a16_2 : decode cJ7_fill_d0a16 2 = .ok (.aload_n 0, 1) := by decide +kernel
theorem dJ7_fill_d0a16_3 : decode cJ7_fill_d0a16 3 = .ok (.arraylength, 1) := by decide +kernel
theorem dJ7_fill_d0a16_4 : decode cJ7_fill_d0a16 4 = .ok (.istore 4, 2) := by decide +kernel
theorem dJ7_fill_d0a16_6 : decode cJ7_fill_d0a16 6 = .ok (.iload_n 3, 1) := by decide +kernel
theorem dJ7_fill_d0a16_7 : decode cJ7_fill_d0a16 7 = .ok (.iload 4, 2) := by decide +kernel
theorem dJ7_fill_d0a16_9 : decode cJ7_fill_d0a16 9 = .ok (.if_icmp .ge 13, 3) := by decide +kernel
theorem dJ7_fill_d0a16_12 : decode cJ7_fill_d0a16 12 = .ok (.aload_n 0, 1) := by decide +kernel
theorem dJ7_fill_d0a16_13 : decode cJ7_fill_d0a16 13 = .ok (.iload_n 3, 1) := by decide +kernel
theorem dJ7_fill_d0a16_14 : decode cJ7_fill_d0a16 14 = .ok (.lload_n 1, 1) := by decide +kernel
theorem dJ7_fill_d0a16_15 : decode cJ7_fill_d0a16 15 = .ok (.lastore, 1) := by decide +kernel
theorem dJ7_fill_d0a16_16 : decode cJ7_fill_d0a16 16 = .ok (.iinc 3 1, 3) := by decide +kernel
theorem dJ7_fill_d0a16_19 : decode cJ7_fill_d0a16 19 = .ok (.goto (-13), 3) := by decide +kernel
theorem dJ7_fill_d0a16_22 : decode cJ7_fill_d0a16 22 = .ok (.return_, 1) := by decide +kernel
theorem dJ7_copyOf_59c91_0 : decode cJ7_copyOf_59c91 0 = .ok (.iload_n 1, 1) := by decide +kernel
theorem dJ7_copyOf_59c91_1 : decode cJ7_copyOf_59c91 1 = .ok (.aload_n 0, 1) := by decide +kernel
theorem dJ7_copyOf_59c91_2 : decode cJ7_copyOf_59c91 2 = .ok (.arraylength, 1) := by decide +kernel
theorem dJ7_copyOf_59c91_3 : decode cJ7_copyOf_59c91 3 = .ok (.if_icmp .ne 11, 3) := by decide +kernel
theorem dJ7_copyOf_59c91_6 : decode cJ7_copyOf_59c91 6 = .ok (.aload_n 0, 1) := by decide +kernel
theorem dJ7_copyOf_59c91_7 : decode cJ7_copyOf_59c91 7 = .ok (.invokevirtual 316, 3) := by decide +kernel
theorem dJ7_copyOf_59c91_10 : decode cJ7_copyOf_59c91 10 = .ok (.checkcast 317, 3) := by decide +kernel
theorem dJ7_copyOf_59c91_13 : decode cJ7_copyOf_59c91 13 = .ok (.areturn, 1) := by decide +kernel
theorem dJ7_copyOf_59c91_14 : decode cJ7_copyOf_59c91 14 = .ok (.iload_n 1, 1) := by decide +kernel
theorem dJ7_copyOf_59c91_15 : decode cJ7_copyOf_59c91 15 = .ok (.newarray .int, 2) := by decide +kernel
theorem dJ7_copyOf_59c91_17 : decode cJ7_copyOf_59c91 17 = .ok (.astore_n 2, 1) := by decide +kernel
theorem dJ7_copyOf_59c91_18 : decode cJ7_copyOf_59c91 18 = .ok (.aload_n 0, 1) := by decide +kernel
theorem dJ7_copyOf_59c91_19 : decode cJ7_copyOf_59c91 19 = .ok (.iconst 0, 1) := by decide +kernel
theorem dJ7_copyOf_59c91_20 : decode cJ7_copyOf_59c91 20 = .ok (.aload_n 2, 1) := by decide +kernel
theorem dJ7_copyOf_59c91_21 : decode cJ7_copyOf_59c91 21 = .ok (.iconst 0, 1) := by decide +kernel
theorem dJ7_copyOf_59c91_22 : decode cJ7_copyOf_59c91 22 = .ok (.aload_n 0, 1) := by decide +kernel
theorem dJ7_copyOf_59c91_23 : decode cJ7_copyOf_59c91 23 = .ok (.arraylength, 1) := by decide +kernel
theorem dJ7_copyOf_59c91_24 : decode cJ7_copyOf_59c91 24 = .ok (.iload_n 1, 1) := by decide +kernel
theorem dJ7_copyOf_59c91_25 : decode cJ7_copyOf_59c91 25 = .ok (.invokestatic 304, 3) := by decide +kernel
theorem dJ7_copyOf_59c91_28 : decode cJ7_copyOf_59c91 28 = .ok (.invokestatic 150, 3) := by decide +kernel
theorem dJ7_copyOf_59c91_31 : decode cJ7_copyOf_59c91 31 = .ok (.aload_n 2, 1) := by decide +kernel
theorem dJ7_copyOf_59c91_32 : decode cJ7_copyOf_59c91 32 = .ok (.areturn, 1) := by decide +kernel
end
section
/-! what every walk here uses: the nest mates' words, the classes known, a method's context, contracts of readers and of writers, calls with the frame rule in them -/
abbrev vwCl : List vw_C := [(RX0, TX0, 2), (RX1, TX1, 4), (RX2, TX2, 6), (RX3, TX3, 4), (RX4, TX4, 6), (RX5, TX5, 11), (RX6, TX6, 32)]
/-- the links between nest mates: fields, methods -/
def nwF : List (String × Nat × String × String × String) := [(RX5, 120, RX1, "height", "I"), (RX5, 125, RX1, "depth", "I"), (RX5, 128, RX1, "width", "I"), (RX5, 131, RX1, "items", "LColumnDesk$Items;"), (RX5, 142, RX3, "everMade", "I"), (RX5, 154, RX2, "begun", "Z"), (RX5, 158, RX2, "sums", "LColumnDesk$Sums;"), (RX5, 165, RX4, "depth", "J"), (RX5, 168, RX4, "shrink", "J"), (RX5, 175, RX2, "leastCost", "J"), (RX5, 185, RX2, "first", "I"), (RX5, 217, RX2, "best", "I"), (RX5, 220, RX4, "limit", "I"), (RX5, 229, RX2, "goal", "I"), (RX1, 28, RX4, "depth", "J"), (RX1, 36, RX4, "width", "J"), (RX1, 61, RX4, "shrink", "J"), (RX2, 57, RX4, "shrink", "J"), (RX3, 45, RX1, "items", "LColumnDesk$Items;")]
def nwM : List (String × Nat × MethodName) := [(RX5, 20, yX2_init), (RX5, 27, yX3_init), (RX5, 34, yX4_init), (RX1, 80, yX5_near), (RX2, 11, yX4_init), (RX2, 60, yX5_badness), (RX3, 36, yX1_init), (RX4, 60, yX5_isSize)]
def NN (U : State) : Prop := (∀ q ∈ nwF, va_Nw (.fieldLinkNest q.1 q.2.1 q.2.2.1 q.2.2.2.1 q.2.2.2.2 "ColumnDesk") U) ∧ ∀ q ∈ nwM, va_Nw (.methodLinkNest q.1 q.2.1 q.2.2 "ColumnDesk") U
theorem NN.warm {s U : State} (hW : s.WarmedH U.vm) (h : NN s) : NN U := ⟨fun q hq => va_Nw.warmF hW (h.1 q hq), fun q hq => va_Nw.warmM hW (h.2 q hq)⟩
theorem NN.same {u U : State} (hv : u.vm = U.vm) (h : NN u) : NN U := ⟨fun q hq => va_Nw.same rfl hv (h.1 q hq), fun q hq => va_Nw.same rfl hv (h.2 q hq)⟩
/-- a link of a field by its place in the list -/
theorem NN.f {s : State} {args : Array Value} (h : NN s) (i : Nat) {a : String} {k : Nat} {b n d : String} (hi : nwF[i]? = some (a, k, b, n, d)) : (Cond.fieldLinkNest a k b n d "ColumnDesk").before args s = true := va_Nw.use rfl (h.1 _ (List.mem_of_getElem? hi))
theorem NN.m {s : State} (h : NN s) (i : Nat) {a : String} {k : Nat} {y : MethodName} (hi : nwM[i]? = some (a, k, y)) : va_Nw (.methodLinkNest a k y "ColumnDesk") s := h.2 _ (List.mem_of_getElem? hi)
abbrev tyA (cI cJ cO : ClassId) : List (ClassId × FieldType) := [(cI, .int), (cJ, .long), (cO, .object "ColumnDesk$MadePage")]
/-- the classes' numbers and slots, the arrays' classes, the nest mates' links -/
def Kn (dC : Nat → ClassId) (dI : Nat → Nat → Nat) (cI cJ cO : ClassId) (U : State) : Prop := va_K (dC, dI) vwCl (tyA cI cJ cO) U ∧ NN U
theorem Kn.warm {dC : Nat → ClassId} {dI : Nat → Nat → Nat} {cI cJ cO : ClassId} {s U : State} (hW : s.WarmedH U.vm) (h : Kn dC dI cI cJ cO s) : Kn dC dI cI cJ cO U := ⟨va_K.moved hW.alike h.1, h.2.warm hW⟩
theorem Kn.same {dC : Nat → ClassId} {dI : Nat → Nat → Nat} {cI cJ cO : ClassId} {u U : State} (hv : u.vm = U.vm) (h : Kn dC dI cI cJ cO u) : Kn dC dI cI cJ cO U := ⟨va_K.moved (by rw [hv]; exact Vm.Alike.refl _) h.1, h.2.same hv⟩
/-- a method's context -/
def Cx (p : Program) (s : State) (m : MethodId) (args : Array Value) (meth : Method) (c : Code) (cc : ByteArray) (rt : Option FieldType) (nL : Nat) (own nm : String) (Ts : List Cond) : Prop :=
  p.tables.exec = Jvm.exec ∧ c.code = cc ∧ meth.sig.returnType = rt ∧ c.maxLocals = nL ∧ s.vm.findClass own = some m.cls ∧ (∀ w ∈ Ts, w.before args s = true) ∧ meth.locks = false ∧ meth.name = nm
theorem my_met {l : Launch} {y : MethodName} {ws ws' : List Cond} {rm : Room} {cc : ByteArray} {maxL : Nat} {ret : Option FieldType} {av : List Value} {Pre : State → Prop} {Qc : Array Value → State → Outcome → State → Prop} {mc ms : Nat} {free : Addr → Prop}
    (hy : plainName y.cls = true) (hw : ws = Cond.code y cc maxL ret :: ws') (hn : (lg_sl av).length ≤ maxL)
    (body : ∀ (p : Program) (e : Env) (s : State) (m : MethodId) (below : List Frame) (meth : Method) (c : Code) (ls : Array Slot), Cx p s m av.toArray meth c cc ret maxL y.cls y.name ws → lv_has ls maxL (lv_args 0 av) → Pre s →
      W p l e rm s m av.toArray below meth c s.heap [] 0 0 (MQ below Qc av.toArray s mc ms free) (F0 m 0 ls [])) : Met l y ws rm (va_Pc av Pre) Qc mc ms free := by
  refine Met.ofW (cc := cc) (maxL := maxL) (ret := ret) hy hw ?_
  intro p e s m args below meth c s₁ B hml hv
  obtain ⟨rfl, hv⟩ := hv
  rw [lg_entry_eq]
  exact body p e s m below meth c _ ⟨B.exec, B.bytes, B.returns, hml, findClass_of_methodNamed B.named, atoms_spec (ws := ws) B.pre, B.notSynchronized, (name_of_methodNamed B.named B.method).1⟩ (lv_entry av hn) hv
/-- a reader's start: the cells; a writer's: the heap's size, the cells, that they are apart -/
def PR (dC : Nat → ClassId) (dI : Nat → Nat → Nat) (cI cJ cO : ClassId) (WS : va_W) (U : State) : Prop := va_P (dC, dI) vwCl WS U.heap ∧ Kn dC dI cI cJ cO U
def PW (dC : Nat → ClassId) (dI : Nat → Nat → Nat) (cI cJ cO : ClassId) (WS : va_W) (sz : Nat) (U : State) : Prop := U.heap.size = sz ∧ va_P (dC, dI) vwCl WS U.heap ∧ Kn dC dI cI cJ cO U ∧ va_D (fun _ => True) WS
def BW (dC : Nat → ClassId) (dI : Nat → Nat → Nat) (A : Nat → Prop) (WS : va_W) (t : State) : Prop := va_P (dC, dI) vwCl WS t.heap ∧ va_D A WS
theorem PR.blind {dC : Nat → ClassId} {dI : Nat → Nat → Nat} {cI cJ cO : ClassId} {WS : va_W} {av : List Value} : FrameBlind (va_Pc av (PR dC dI cI cJ cO WS)) := fun a U g mk q => ⟨q.1, q.2.1, Kn.same (u := U) (U := U.calling g mk a) rfl q.2.2⟩
theorem PW.blind {dC : Nat → ClassId} {dI : Nat → Nat → Nat} {cI cJ cO : ClassId} {WS : va_W} {sz : Nat} {av : List Value} : FrameBlind (va_Pc av (PW dC dI cI cJ cO WS sz)) := fun a U g mk q => ⟨q.1, q.2.1, q.2.2.1, Kn.same (u := U) (U := U.calling g mk a) rfl q.2.2.2.1, q.2.2.2.2⟩
theorem my_metW {l : Launch} {y : MethodName} {ws ws' : List Cond} {rm : Room} {cc : ByteArray} {maxL : Nat} {ret : Option FieldType} {av : List Value} {dC : Nat → ClassId} {dI : Nat → Nat → Nat} {cI cJ cO : ClassId} {WS : va_W} {sz : Nat} {Qc : (Nat → Prop) → Array Value → State → Outcome → State → Prop} {mc ms : Nat}
    (hy : plainName y.cls = true) (hw : ws = Cond.code y cc maxL ret :: ws') (hn : (lg_sl av).length ≤ maxL)
    (body : ∀ (p : Program) (e : Env) (s : State) (m : MethodId) (below : List Frame) (meth : Method) (c : Code) (ls : Array Slot) (A : Nat → Prop), Cx p s m av.toArray meth c cc ret maxL y.cls y.name ws → lv_has ls maxL (lv_args 0 av) → Kn dC dI cI cJ cO s → (∀ q : Nat, s.heap.size ≤ q → A q) → va_P (dC, dI) vwCl WS s.heap → va_D A WS → va_S A s.heap s.heap [] →
      W p l e rm s m av.toArray below meth c s.heap [] 0 0 (MQ below (Qc A) av.toArray s mc ms A) (F0 m 0 ls [])) : Met l y ws rm (va_Pc av (PW dC dI cI cJ cO WS sz)) (Qc (va_A WS sz)) mc ms (va_A WS sz) :=
  my_met hy hw hn (fun p e s m below meth c ls C hl hv => by
    obtain ⟨hsz, hP, hK, hD⟩ := hv
    subst hsz
    exact body p e s m below meth c ls _ C hl hK (fun q h => Or.inr h) hP hD.self va_S.rf)
section MYR
variable {p : Program} {l : Launch} {e : Env} {R : Room} {s : State} {m : MethodId} {args : Array Value} {below : List Frame} {meth : Method} {c : Code} {H : Heap} {locs : List Loc} {cells slots mc ms : Nat} {Q : State → Prop}
variable {cc : ByteArray} {rt : Option FieldType} {nL : Nat} {own nm : String} {Ts : List Cond} {pc : Nat} {ls : Array Slot} {rest : List Value} {dC : Nat → ClassId} {dI : Nat → Nat → Nat} {cI cJ cO : ClassId} {A : Nat → Prop}
/-- ends: of readers -/
theorem my_iretR {post : Int32 → Prop} {v : Int32} (C : Cx p s m args meth c cc (some .int) nL own nm Ts) (hp : post v) (d : decode cc pc = .ok (.ireturn, 1)) : W p l e R s m args below meth c s.heap [] 0 0 (MQ below (vp_Si post) args s 0 0 (fun _ => False)) (F0 m pc ls [.int v]) := by
  obtain ⟨hx, hb, hr, -, -, -, hlocks, -⟩ := C
  exact W.iret (v := v) hx hb hr (fun t ht hW => ⟨v, rfl, hp, ht⟩) (fun q h => by cases h) d
theorem my_zretR {post : Int32 → Prop} {v : Int32} (C : Cx p s m args meth c cc (some .boolean) nL own nm Ts) (hv : narrow .boolean (.int v) = .int v) (hp : post v) (d : decode cc pc = .ok (.ireturn, 1)) : W p l e R s m args below meth c s.heap [] 0 0 (MQ below (vp_Si post) args s 0 0 (fun _ => False)) (F0 m pc ls [.int v]) := by
  obtain ⟨hx, hb, hr, -, -, -, hlocks, -⟩ := C
  exact W.zret (v := v) hx hb hr hv (fun t ht hW => ⟨v, rfl, hp, ht⟩) (fun q h => by cases h) d
theorem my_lretR {post : Int64 → Prop} {v : Int64} (C : Cx p s m args meth c cc (some .long) nL own nm Ts) (hp : post v) (d : decode cc pc = .ok (.lreturn, 1)) : W p l e R s m args below meth c s.heap [] 0 0 (MQ below (vp_Sl post) args s 0 0 (fun _ => False)) (F0 m pc ls [.long v]) := by
  obtain ⟨hx, hb, hr, -, -, -, hlocks, -⟩ := C
  exact W.lret (v := v) hx hb hr (fun t ht hW => ⟨v, rfl, hp, ht⟩) (fun q h => by cases h) d
/-- ends: of writers -/
theorem my_vret {S : Type} {post : S → Prop} {WSf : S → va_W} (u : S) (C : Cx p s m args meth c cc none nL own nm Ts) (hp : post u) (hP : va_P (dC, dI) vwCl (WSf u) H) (hD : va_D A (WSf u)) (hS : va_S A s.heap H locs) (hc : cells ≤ mc) (hs : slots ≤ ms) (d : decode cc pc = .ok (.return_, 1)) :
    W p l e R s m args below meth c H locs cells slots (MQ below (va_Qv post (fun u t => BW dC dI A (WSf u) t) A) args s mc ms A) (F0 m pc ls []) := by
  obtain ⟨hx, hb, hr, -, -, -, hlocks, -⟩ := C
  refine W.widen hc hs ?_
  exact W.vret hx hb hr (fun t ht hW => ⟨⟨u, rfl, hp, by rw [ht]; exact hP, hD⟩, hS.F ht⟩) hS.2.2 d
theorem my_iret {S : Type} {post : Int32 → S → Prop} {WSf : S → va_W} {v : Int32} (u : S) (C : Cx p s m args meth c cc (some .int) nL own nm Ts) (hp : post v u) (hP : va_P (dC, dI) vwCl (WSf u) H) (hD : va_D A (WSf u)) (hS : va_S A s.heap H locs) (hc : cells ≤ mc) (hs : slots ≤ ms) (d : decode cc pc = .ok (.ireturn, 1)) :
    W p l e R s m args below meth c H locs cells slots (MQ below (va_Qi post (fun u t => BW dC dI A (WSf u) t) A) args s mc ms A) (F0 m pc ls [.int v]) := by
  obtain ⟨hx, hb, hr, -, -, -, hlocks, -⟩ := C
  refine W.widen hc hs ?_
  exact W.iret (v := v) hx hb hr (fun t ht hW => ⟨⟨v, u, rfl, hp, by rw [ht]; exact hP, hD⟩, hS.F ht⟩) hS.2.2 d
theorem my_zret {S : Type} {post : Int32 → S → Prop} {WSf : S → va_W} {v : Int32} (u : S) (C : Cx p s m args meth c cc (some .boolean) nL own nm Ts) (hv : narrow .boolean (.int v) = .int v) (hp : post v u) (hP : va_P (dC, dI) vwCl (WSf u) H) (hD : va_D A (WSf u)) (hS : va_S A s.heap H locs) (hc : cells ≤ mc) (hs : slots ≤ ms) (d : decode cc pc = .ok (.ireturn, 1)) :
    W p l e R s m args below meth c H locs cells slots (MQ below (va_Qi post (fun u t => BW dC dI A (WSf u) t) A) args s mc ms A) (F0 m pc ls [.int v]) := by
  obtain ⟨hx, hb, hr, -, -, -, hlocks, -⟩ := C
  refine W.widen hc hs ?_
  exact W.zret (v := v) hx hb hr hv (fun t ht hW => ⟨⟨v, u, rfl, hp, by rw [ht]; exact hP, hD⟩, hS.F ht⟩) hS.2.2 d
theorem my_lret {S : Type} {post : Int64 → S → Prop} {WSf : S → va_W} {v : Int64} (u : S) (C : Cx p s m args meth c cc (some .long) nL own nm Ts) (hp : post v u) (hP : va_P (dC, dI) vwCl (WSf u) H) (hD : va_D A (WSf u)) (hS : va_S A s.heap H locs) (hc : cells ≤ mc) (hs : slots ≤ ms) (d : decode cc pc = .ok (.lreturn, 1)) :
    W p l e R s m args below meth c H locs cells slots (MQ below (va_Ql post (fun u t => BW dC dI A (WSf u) t) A) args s mc ms A) (F0 m pc ls [.long v]) := by
  obtain ⟨hx, hb, hr, -, -, -, hlocks, -⟩ := C
  refine W.widen hc hs ?_
  exact W.lret (v := v) hx hb hr (fun t ht hW => ⟨⟨v, u, rfl, hp, by rw [ht]; exact hP, hD⟩, hS.F ht⟩) hS.2.2 d
/-- fields -/
theorem my_get {C : String} {T : u_T} {N ci index a : Nat} {ws : va_W} (X : Cx p s m args meth c cc rt nL own nm Ts) (hK : Kn dC dI cI cJ cO s) (hin : ∀ w ∈ u_ws C T N, w ∈ Ts) (hP : va_P (dC, dI) vwCl ws H) (q0 : Nat) {fs : List Value} (he : ws[q0]? = some (a, .inr (ci, fs))) (hc : vwCl[ci]? = some (C, T, N)) (k : Nat) (hk : k < N) (hl : (Cond.fieldLink own index (T k).1 (T k).2.1 (T k).2.2.1) ∈ Ts) {v : Value} (hv : fs[k]? = some v) (hdg : decode cc pc = .ok (.getfield index, 3))
    (kk : W p l e R s m args below meth c H locs cells slots Q (F0 m (pc + 3) ls (v :: rest))) : W p l e R s m args below meth c H locs cells slots Q (F0 m pc ls (.ref a :: rest)) := by
  obtain ⟨hx, hb, -, -, hown, hts, -⟩ := X
  exact va_get hx hb hts hin hown hK.1 hP q0 he hc k hk (hts _ hl) (fun _ h => h) hv hdg kk
theorem my_getN {C : String} {T : u_T} {N ci index a : Nat} {ws : va_W} (X : Cx p s m args meth c cc rt nL own nm Ts) (hK : Kn dC dI cI cJ cO s) (hin : ∀ w ∈ u_ws C T N, w ∈ Ts) (hP : va_P (dC, dI) vwCl ws H) (q0 : Nat) {fs : List Value} (he : ws[q0]? = some (a, .inr (ci, fs))) (hc : vwCl[ci]? = some (C, T, N)) (k : Nat) (hk : k < N) (i : Nat) (hl : nwF[i]? = some (own, index, (T k).1, (T k).2.1, (T k).2.2.1)) {v : Value} (hv : fs[k]? = some v) (hdg : decode cc pc = .ok (.getfield index, 3))
    (kk : W p l e R s m args below meth c H locs cells slots Q (F0 m (pc + 3) ls (v :: rest))) : W p l e R s m args below meth c H locs cells slots Q (F0 m pc ls (.ref a :: rest)) := by
  obtain ⟨hx, hb, -, -, hown, hts, -⟩ := X
  exact va_getN hx hb hts hin hown hK.1 hP q0 he hc k hk (hK.2.f i hl) (fun _ h => h) hv hdg kk
theorem my_put {C : String} {T : u_T} {N ci index a : Nat} {ws : va_W} {H0 : Heap} (X : Cx p s m args meth c cc rt nL own nm Ts) (hK : Kn dC dI cI cJ cO s) (hin : ∀ w ∈ u_ws C T N, w ∈ Ts) (ty0 : Nat → FieldType) (hty : ∀ k, k < N → parseFieldDescriptor (T k).2.2.1 = some (ty0 k)) (hnm : ∀ a, a < N → ∀ b, b < N → a ≠ b → (T a).2.1 ≠ (T b).2.1) (hP : va_P (dC, dI) vwCl ws H) (hD : va_D A ws) (hS : va_S A H0 H locs) (q0 : Nat) {fs : List Value} (he : ws[q0]? = some (a, .inr (ci, fs))) (hc : vwCl[ci]? = some (C, T, N)) (k : Nat) (hk : k < N) (hl : (Cond.fieldLink own index (T k).1 (T k).2.1 (T k).2.2.1) ∈ Ts) (hfin : (T k).2.2.2 = false) {v : Value} (hn : narrow (ty0 k) v = v) (hfit : fits (ty0 k) v = true) (hlen : k < fs.length) (hdg : decode cc pc = .ok (.putfield index, 3))
    (kk : ∀ (H1 : Heap) (locs1 : List Loc), va_P (dC, dI) vwCl (ws.set q0 (a, .inr (ci, fs.set k v))) H1 → va_D A (ws.set q0 (a, .inr (ci, fs.set k v))) → va_S A H0 H1 locs1 → W p l e R s m args below meth c H1 locs1 cells slots Q (F0 m (pc + 3) ls rest)) : W p l e R s m args below meth c H locs cells slots Q (F0 m pc ls (v :: .ref a :: rest)) := by
  obtain ⟨hx, hb, -, -, hown, hts, -⟩ := X
  exact va_put hx hb hts hin ty0 hty hnm hown hK.1 hP hD hS q0 he hc k hk (hts _ hl) (fun _ h => h) hfin (hty k hk) hn hfit hlen hdg kk
theorem my_putF {C : String} {T : u_T} {N ci index a : Nat} {ws : va_W} {H0 : Heap} (X : Cx p s m args meth c cc rt nL own "<init>" Ts) (hK : Kn dC dI cI cJ cO s) (hin : ∀ w ∈ u_ws C T N, w ∈ Ts) (ty0 : Nat → FieldType) (hty : ∀ k, k < N → parseFieldDescriptor (T k).2.2.1 = some (ty0 k)) (hnm : ∀ a, a < N → ∀ b, b < N → a ≠ b → (T a).2.1 ≠ (T b).2.1) (hP : va_P (dC, dI) vwCl ws H) (hD : va_D A ws) (hS : va_S A H0 H locs) (q0 : Nat) {fs : List Value} (he : ws[q0]? = some (a, .inr (ci, fs))) (hc : vwCl[ci]? = some (C, T, N)) (k : Nat) (hk : k < N) (hl : (Cond.fieldLink own index (T k).1 (T k).2.1 (T k).2.2.1) ∈ Ts) (hfin : (T k).2.2.2 = true) (hdecl : (T k).1 = own) {v : Value} (hn : narrow (ty0 k) v = v) (hfit : fits (ty0 k) v = true) (hlen : k < fs.length) (hdg : decode cc pc = .ok (.putfield index, 3))
    (kk : ∀ (H1 : Heap) (locs1 : List Loc), va_P (dC, dI) vwCl (ws.set q0 (a, .inr (ci, fs.set k v))) H1 → va_D A (ws.set q0 (a, .inr (ci, fs.set k v))) → va_S A H0 H1 locs1 → W p l e R s m args below meth c H1 locs1 cells slots Q (F0 m (pc + 3) ls rest)) : W p l e R s m args below meth c H locs cells slots Q (F0 m pc ls (v :: .ref a :: rest)) := by
  obtain ⟨hx, hb, -, -, hown, hts, -, hin2⟩ := X
  exact va_putF hx hb hts hin ty0 hty hnm hown hK.1 hP hD hS q0 he hc k hk (hts _ hl) (fun _ h => h) hfin hin2 hdecl (hty k hk) hn hfit hlen hdg kk
theorem my_putN {C : String} {T : u_T} {N ci index a : Nat} {ws : va_W} {H0 : Heap} (X : Cx p s m args meth c cc rt nL own nm Ts) (hK : Kn dC dI cI cJ cO s) (hin : ∀ w ∈ u_ws C T N, w ∈ Ts) (ty0 : Nat → FieldType) (hty : ∀ k, k < N → parseFieldDescriptor (T k).2.2.1 = some (ty0 k)) (hnm : ∀ a, a < N → ∀ b, b < N → a ≠ b → (T a).2.1 ≠ (T b).2.1) (hP : va_P (dC, dI) vwCl ws H) (hD : va_D A ws) (hS : va_S A H0 H locs) (q0 : Nat) {fs : List Value} (he : ws[q0]? = some (a, .inr (ci, fs))) (hc : vwCl[ci]? = some (C, T, N)) (k : Nat) (hk : k < N) (i : Nat) (hl : nwF[i]? = some (own, index, (T k).1, (T k).2.1, (T k).2.2.1)) (hfin : (T k).2.2.2 = false) {v : Value} (hn : narrow (ty0 k) v = v) (hfit : fits (ty0 k) v = true) (hlen : k < fs.length) (hdg : decode cc pc = .ok (.putfield index, 3))
    (kk : ∀ (H1 : Heap) (locs1 : List Loc), va_P (dC, dI) vwCl (ws.set q0 (a, .inr (ci, fs.set k v))) H1 → va_D A (ws.set q0 (a, .inr (ci, fs.set k v))) → va_S A H0 H1 locs1 → W p l e R s m args below meth c H1 locs1 cells slots Q (F0 m (pc + 3) ls rest)) : W p l e R s m args below meth c H locs cells slots Q (F0 m pc ls (v :: .ref a :: rest)) := by
  obtain ⟨hx, hb, -, -, hown, hts, -⟩ := X
  exact va_putN hx hb hts hin ty0 hty hnm hown hK.1 hP hD hS q0 he hc k hk (hK.2.f i hl) (fun _ h => h) hfin (hty k hk) hn hfit hlen hdg kk
end MYR
end
section
section MYC
variable {p : Program} {l : Launch} {e : Env} {R : Room} {s : State} {m : MethodId} {args : Array Value} {below : List Frame} {meth : Method} {c : Code} {H : Heap} {locs : List Loc} {cells slots mc ms : Nat} {Q : State → Prop}
variable {cc bytes : ByteArray} {rt ret : Option FieldType} {nL maxL index n : Nat} {own nm C : String} {Ts wsY ws' : List Cond} {pc : Nat} {ls : Array Slot} {st0 rest As : List Value} {dC : Nat → ClassId} {dI : Nat → Nat → Nat} {cI cJ cO : ClassId} {A : Nat → Prop} {y : MethodName} {rm : Room} {Qc : Array Value → State → Outcome → State → Prop} {free : Addr → Prop} {b : Addr} {Pre : State → Prop}
theorem PR.pre {wc : va_W} (hP : va_P (dC, dI) vwCl wc H) (hK : Kn dC dI cI cJ cO s) : ∀ U : State, U.heap = H → s.WarmedH U.vm → PR dC dI cI cJ cO wc U := fun U hU hW => ⟨by rw [hU]; exact hP, hK.warm hW⟩
theorem PW.pre {wc : va_W} (hP : va_P (dC, dI) vwCl wc H) (hD : va_D A wc) (hK : Kn dC dI cI cJ cO s) : ∀ U : State, U.heap = H → s.WarmedH U.vm → PW dC dI cI cJ cO wc H.size U := fun U hU hW => ⟨by rw [hU], by rw [hU]; exact hP, hK.warm hW, hD.weaken (fun _ _ _ _ => trivial)⟩
theorem my_runV (X : Cx p s m args meth c cc rt nL own nm Ts) (hbl : FrameBlind (va_Pc (.ref b :: As) Pre)) (hpre : ∀ U : State, U.heap = H → s.WarmedH U.vm → Pre U) (hrecv : ∃ cell : Cell, H[b]? = some cell ∧ cell.vm.isStatics = false ∧ s.vm.findClass C = some cell.cls)
    (hM : Met l y wsY rm (va_Pc (.ref b :: As) Pre) Qc mc ms free) (hG : GoodIn Ts (wsV own index C y wsY)) (hw : wsY = Cond.code y bytes maxL ret :: ws') (hrc : rm.cells = mc) (hrs : rm.slots = ms)
    (hd : y.cls = C ∧ y.cls ≠ "java/lang/invoke/MethodHandle" ∧ y.cls ≠ "java/lang/invoke/VarHandle" ∧ (parseMethodDescriptor y.desc).map (fun d => d.parameters.length) = some n) (hn : As.length = n) (hR : rm.frames + 1 ≤ R.frames ∧ 8 + (maxL + 11) + rm.locals ≤ R.locals)
    (hsize : ls.size = nL) (hstk : st0 = As.reverse ++ .ref b :: rest) (hW : (rest.map fun v => v.category).sum ≤ 8) (hdg : decode cc pc = .ok (.invokevirtual index, 3)) (hf : cells + mc ≤ R.cells ∧ slots + ms ≤ R.slots) :
    va_Run p l e R s m args below meth c H locs cells slots mc ms (F0 m pc ls st0) rest (Qc (Value.ref b :: As).toArray) free := by
  obtain ⟨hx, hb, -, hml, hown, hts, -⟩ := X
  exact va_runV (As := As) (rest := rest) ⟨hx, hb, hml, hown, hts⟩ hM (cwV n hts hG hw hrc hrs hd hR) ⟨hbl, hrecv, fun U hU hW => ⟨rfl, hpre U hU hW⟩⟩ rfl hn hsize hstk (lv_room hW) hdg hf
theorem my_runS (X : Cx p s m args meth c cc rt nL own nm Ts) (hbl : FrameBlind (va_Pc As Pre)) (hpre : ∀ U : State, U.heap = H → s.WarmedH U.vm → Pre U)
    (hM : Met l y wsY rm (va_Pc As Pre) Qc mc ms free) (hG : GoodIn Ts (va_wsS own index y wsY)) (hw : wsY = Cond.code y bytes maxL ret :: ws') (hrc : rm.cells = mc) (hrs : rm.slots = ms)
    (hd : y.cls ≠ "java/lang/invoke/MethodHandle" ∧ y.cls ≠ "java/lang/invoke/VarHandle" ∧ (parseMethodDescriptor y.desc).map (fun d => d.parameters.length) = some n) (hn : As.length = n) (hR : rm.frames + 1 ≤ R.frames ∧ 8 + (maxL + 11) + rm.locals ≤ R.locals)
    (hsize : ls.size = nL) (hstk : st0 = As.reverse ++ rest) (hW : (rest.map fun v => v.category).sum ≤ 8) (hdg : decode cc pc = .ok (.invokestatic index, 3)) (hf : cells + mc ≤ R.cells ∧ slots + ms ≤ R.slots) :
    va_Run p l e R s m args below meth c H locs cells slots mc ms (F0 m pc ls st0) rest (Qc As.toArray) free := by
  obtain ⟨hx, hb, -, hml, hown, hts, -⟩ := X
  exact va_runS (As := As) (rest := rest) ⟨hx, hb, hml, hown, hts⟩ hM (va_cwS n hts hG hw hrc hrs hd hR) ⟨hbl, fun U hU hW => ⟨rfl, hpre U hU hW⟩⟩ rfl hn hsize hstk (lv_room hW) hdg hf
/-- a nest mate's static method -/
theorem my_runSN (X : Cx p s m args meth c cc rt nL own nm Ts) (hK : Kn dC dI cI cJ cO s) (hbl : FrameBlind (va_Pc As Pre)) (hpre : ∀ U : State, U.heap = H → s.WarmedH U.vm → Pre U)
    (hM : Met l y wsY rm (va_Pc As Pre) Qc mc ms free) (hG : GoodIn Ts wsY) (hw : wsY = Cond.code y bytes maxL ret :: ws') (hrc : rm.cells = mc) (hrs : rm.slots = ms) (i : Nat) (hl : nwM[i]? = some (own, index, y)) (hini : Cond.initialized y.cls ∈ Ts) (hst : Cond.static y ∈ Ts)
    (hd : y.cls ≠ "java/lang/invoke/MethodHandle" ∧ y.cls ≠ "java/lang/invoke/VarHandle" ∧ (parseMethodDescriptor y.desc).map (fun d => d.parameters.length) = some n) (hn : As.length = n) (hR : rm.frames + 1 ≤ R.frames ∧ 8 + (maxL + 11) + rm.locals ≤ R.locals)
    (hsize : ls.size = nL) (hstk : st0 = As.reverse ++ rest) (hW : (rest.map fun v => v.category).sum ≤ 8) (hdg : decode cc pc = .ok (.invokestatic index, 3)) (hf : cells + mc ≤ R.cells ∧ slots + ms ≤ R.slots) :
    va_Run p l e R s m args below meth c H locs cells slots mc ms (F0 m pc ls st0) rest (Qc As.toArray) free := by
  obtain ⟨hx, hb, -, hml, hown, hts, -⟩ := X
  exact va_runSN (As := As) (rest := rest) ⟨hx, hb, hml, hown, hts⟩ hM ⟨va_cnB n hts hG hw hrc hrs (hK.2.m i hl) (hts _ hini) hd hR, hts _ hst, trivial⟩ ⟨hbl, fun U hU hW => ⟨rfl, hpre U hU hW⟩⟩ rfl hn hsize hstk (lv_room hW) hdg hf
/-- a constructor -/
theorem my_runI (X : Cx p s m args meth c cc rt nL own nm Ts) (hbl : FrameBlind (va_Pc (.ref b :: As) Pre)) (hpre : ∀ U : State, U.heap = H → s.WarmedH U.vm → Pre U)
    (hM : Met l y wsY rm (va_Pc (.ref b :: As) Pre) Qc mc ms free) (hG : GoodIn Ts wsY) (hw : wsY = Cond.code y bytes maxL none :: ws') (hrc : rm.cells = mc) (hrs : rm.slots = ms) (hini : Cond.initialized y.cls ∈ Ts) (hl : Cond.methodLink own index y ∈ Ts) (hin : Cond.instanceMethod y ∈ Ts) (hy : y.name = "<init>")
    (hd : y.cls ≠ "java/lang/invoke/MethodHandle" ∧ y.cls ≠ "java/lang/invoke/VarHandle" ∧ (parseMethodDescriptor y.desc).map (fun d => d.parameters.length) = some n) (hn : As.length = n) (hR : rm.frames + 1 ≤ R.frames ∧ 8 + (maxL + 11) + rm.locals ≤ R.locals)
    (hsize : ls.size = nL) (hstk : st0 = As.reverse ++ .ref b :: rest) (hW : (rest.map fun v => v.category).sum ≤ 8) (hdg : decode cc pc = .ok (.invokespecial index, 3)) (hf : cells + mc ≤ R.cells ∧ slots + ms ≤ R.slots) :
    va_Run p l e R s m args below meth c H locs cells slots mc ms (F0 m pc ls st0) rest (Qc (Value.ref b :: As).toArray) free := by
  obtain ⟨hx, hb, -, hml, hown, hts, -⟩ := X
  exact va_runI (As := As) (rest := rest) ⟨hx, hb, hml, hown, hts⟩ hM (cwI n hts hG hw hrc hrs (hts _ hini) (hts _ hl) (hts _ hin) hy hd hR) ⟨hbl, fun U hU hW => ⟨rfl, hpre U hU hW⟩⟩ rfl hn hsize hstk (lv_room hW) hdg hf
/-- a nest mate's constructor -/
theorem my_runIN (X : Cx p s m args meth c cc rt nL own nm Ts) (hK : Kn dC dI cI cJ cO s) (hbl : FrameBlind (va_Pc (.ref b :: As) Pre)) (hpre : ∀ U : State, U.heap = H → s.WarmedH U.vm → Pre U)
    (hM : Met l y wsY rm (va_Pc (.ref b :: As) Pre) Qc mc ms free) (hG : GoodIn Ts wsY) (hw : wsY = Cond.code y bytes maxL none :: ws') (hrc : rm.cells = mc) (hrs : rm.slots = ms) (i : Nat) (hl : nwM[i]? = some (own, index, y)) (hini : Cond.initialized y.cls ∈ Ts) (hin : Cond.instanceMethod y ∈ Ts) (hy : y.name = "<init>")
    (hd : y.cls ≠ "java/lang/invoke/MethodHandle" ∧ y.cls ≠ "java/lang/invoke/VarHandle" ∧ (parseMethodDescriptor y.desc).map (fun d => d.parameters.length) = some n) (hn : As.length = n) (hR : rm.frames + 1 ≤ R.frames ∧ 8 + (maxL + 11) + rm.locals ≤ R.locals)
    (hsize : ls.size = nL) (hstk : st0 = As.reverse ++ .ref b :: rest) (hW : (rest.map fun v => v.category).sum ≤ 8) (hdg : decode cc pc = .ok (.invokespecial index, 3)) (hf : cells + mc ≤ R.cells ∧ slots + ms ≤ R.slots) :
    va_Run p l e R s m args below meth c H locs cells slots mc ms (F0 m pc ls st0) rest (Qc (Value.ref b :: As).toArray) free := by
  obtain ⟨hx, hb, -, hml, hown, hts, -⟩ := X
  exact va_runIN (As := As) (rest := rest) ⟨hx, hb, hml, hown, hts⟩ hM ⟨va_cnB n hts hG hw hrc hrs (hK.2.m i hl) (hts _ hini) hd hR, hy, hts _ hin⟩ ⟨hbl, fun U hU hW => ⟨rfl, hpre U hU hW⟩⟩ rfl hn hsize hstk (lv_room hW) hdg hf
variable {S : Type} {ws wc wr F : va_W} {w1 : S → va_W} {H0 : Heap} {a : Array Value}
/-- the frame rule with a rest that is any list of cells: the callee had some of ws -/
theorem my_joinF {D : va_G} {cl : List vw_C} {w2 : va_W} {H1 : Heap} (hP : va_P D cl (ws ++ F) H) (hD : va_D A (ws ++ F)) (isC isR : List Nat) (hC : isC.map (fun i => ws[i]?) = wc.map some) (hR : isR.map (fun i => ws[i]?) = wr.map some) (hn : va_nd isR = true) (hdis : ∀ i ∈ isR, i ∉ isC)
    (hk : ∀ q : Nat, q < H.size → ¬ va_A wc H.size q → H1[q]? = H[q]?) (hF : ∀ q, va_A wc H.size q → A q) (hP1 : va_P D cl w2 H1) (hD1 : va_D (va_A wc H.size) w2) : va_P D cl ((wr ++ w2) ++ F) H1 ∧ va_D A ((wr ++ w2) ++ F) := by
  have at' : ∀ {is : List Nat} {w : va_W}, is.map (fun i => ws[i]?) = w.map some → ∀ (k : Nat) (q : Nat × va_E), w[k]? = some q → ∃ i, is[k]? = some i ∧ ws[i]? = some q := by
    intro is w hs k q hq
    have h1 : (is.map (fun i => ws[i]?))[k]? = some (some q) := by rw [hs, List.getElem?_map, hq]; rfl
    rw [List.getElem?_map] at h1
    cases hi : is[k]? with
    | none => rw [hi] at h1; cases h1
    | some i => rw [hi] at h1; exact ⟨i, rfl, Option.some.inj h1⟩
  have inl : ∀ (k : Nat) (q : Nat × va_E), ws[k]? = some q → (ws ++ F)[k]? = some q := fun k q h => by
    rw [List.getElem?_append_left (List.getElem?_eq_some_iff.mp h).1]; exact h
  have inr : ∀ (k : Nat) (q : Nat × va_E), F[k]? = some q → (ws ++ F)[ws.length + k]? = some q := fun k q h => by
    rw [List.getElem?_append_right (Nat.le_add_right _ _), Nat.add_sub_cancel_left]; exact h
  have notC : ∀ (i : Nat) (q : Nat × va_E), (ws ++ F)[i]? = some q → i ∉ isC → q.1 < H.size ∧ ¬ va_A wc H.size q.1 := by
    intro i q hq hi
    have hl := (hP i q hq).lt
    refine ⟨hl, fun h => ?_⟩
    rcases h with ⟨k2, e, h⟩ | h
    · obtain ⟨j, h3, h4⟩ := at' hC k2 (q.1, e) h
      have hij := hD.1 i j q (q.1, e) hq (inl _ _ h4) rfl
      subst hij
      exact hi (List.mem_of_getElem? h3)
    · omega
  have isClt : ∀ i ∈ isC, i < ws.length := by
    intro i hi
    obtain ⟨k, hk⟩ := List.getElem?_of_mem hi
    have h1 : (isC.map (fun i => ws[i]?))[k]? = some (ws[i]?) := by rw [List.getElem?_map, hk]; rfl
    rw [hC, List.getElem?_map] at h1
    cases hw : wc[k]? with
    | none => rw [hw] at h1; cases h1
    | some q =>
      rw [hw] at h1
      have h2 : ws[i]? = some q := (Option.some.inj h1).symm
      exact (List.getElem?_eq_some_iff.mp h2).1
  have apR : ∀ (k : Nat) (q : Nat × va_E), wr[k]? = some q → q.1 < H.size ∧ ¬ va_A wc H.size q.1 := by
    intro k q hq
    obtain ⟨i, h1, h2⟩ := at' hR k q hq
    exact notC i q (inl _ _ h2) (hdis i (List.mem_of_getElem? h1))
  have apF : ∀ (k : Nat) (q : Nat × va_E), F[k]? = some q → q.1 < H.size ∧ ¬ va_A wc H.size q.1 := by
    intro k q hq
    exact notC _ q (inr _ _ hq) (fun h => by have := isClt _ h; omega)
  have hDR : va_D A wr := by
    refine ⟨fun i j x z hx hz hxz => ?_, fun k q hq => ?_⟩
    · obtain ⟨i', h1, h2⟩ := at' hR i x hx
      obtain ⟨j', h3, h4⟩ := at' hR j z hz
      have := hD.1 i' j' x z (inl _ _ h2) (inl _ _ h4) hxz
      subst this
      exact va_nd_inj isR hn i j i' h1 h3
    · obtain ⟨i', h1, h2⟩ := at' hR k q hq
      exact hD.2 i' q (inl _ _ h2)
  have hDF : va_D A F := by
    refine ⟨fun i j x z hx hz hxz => ?_, fun k q hq => hD.2 _ q (inr _ _ hq)⟩
    have := hD.1 _ _ x z (inr _ _ hx) (inr _ _ hz) hxz
    omega
  refine ⟨va_P.app (va_P.app (fun k q hq => ?_) hP1) (fun k q hq => ?_), va_D.app (va_D.app hDR (hD1.weaken (fun k q _ h => hF q.1 h)) (fun i j x z hx hz hxz => ?_)) hDF (fun i j x z hx hz hxz => ?_)⟩
  · obtain ⟨i, h1, h2⟩ := at' hR k q hq
    obtain ⟨g1, g2⟩ := apR k q hq
    exact (hP i q (inl _ _ h2)).kept (hk q.1 g1 g2)
  · obtain ⟨g1, g2⟩ := apF k q hq
    exact (hP _ q (inr _ _ hq)).kept (hk q.1 g1 g2)
  · exact (apR i x hx).2 (by rw [hxz]; exact hD1.2 j z hz)
  · by_cases hi : i < wr.length
    · rw [List.getElem?_append_left hi] at hx
      obtain ⟨i', h1, h2⟩ := at' hR i x hx
      have := hD.1 _ _ x z (inl _ _ h2) (inr _ _ hz) hxz
      have hl := (List.getElem?_eq_some_iff.mp h2).1
      omega
    · rw [List.getElem?_append_right (by omega)] at hx
      exact (apF j z hz).2 (by rw [← hxz]; exact hD1.2 _ x hx)
theorem my_freeF (hD : va_D A (ws ++ F)) (hS : va_S A H0 H locs) (hA : ∀ q, H0.size ≤ q → A q) (isC : List Nat) (hC : isC.map (fun i => ws[i]?) = wc.map some) : ∀ q, va_A wc H.size q → A q := by
  intro q h
  rcases h with ⟨k, e, h⟩ | h
  · have h1 : (isC.map (fun i => ws[i]?))[k]? = some (some (q, e)) := by rw [hC, List.getElem?_map, h]; rfl
    rw [List.getElem?_map] at h1
    cases hi : isC[k]? with
    | none => rw [hi] at h1; cases h1
    | some i =>
      rw [hi] at h1
      have h2 : ws[i]? = some (q, e) := Option.some.inj h1
      exact hD.2 i (q, e) (by rw [List.getElem?_append_left (List.getElem?_eq_some_iff.mp h2).1]; exact h2)
  · exact hA q (Nat.le_trans hS.1 h)
/-- calls of writers: what comes back stands behind the caller's other cells; F is any rest -/
theorem my_callv {post : S → Prop} (hr : va_Run p l e R s m args below meth c H locs cells slots mc ms (F0 m pc ls st0) rest (va_Qv post (fun u t => BW dC dI (va_A wc H.size) (w1 u) t) (va_A wc H.size) a) (va_A wc H.size)) (hS : va_S A H0 H locs) (hP : va_P (dC, dI) vwCl (ws ++ F) H) (hD : va_D A (ws ++ F)) (hA : ∀ q, H0.size ≤ q → A q) (isC isR : List Nat) (hC : isC.map (fun i => ws[i]?) = wc.map some) (hR : isR.map (fun i => ws[i]?) = wr.map some) (hn : va_nd isR = true) (hdis : ∀ i ∈ isR, i ∉ isC)
    (kk : ∀ (u : S) (H1 : Heap) (locs1 : List Loc), post u → va_P (dC, dI) vwCl ((wr ++ w1 u) ++ F) H1 → va_D A ((wr ++ w1 u) ++ F) → va_S A H0 H1 locs1 → W p l e R s m args below meth c H1 locs1 (cells + mc) (slots + ms) Q (F0 m (pc + 3) ls rest)) : W p l e R s m args below meth c H locs cells slots Q (F0 m pc ls st0) := by
  have hF := my_freeF hD hS hA isC hC
  refine va_callv hr hS (fun q _ h => hF q h) hF (fun u t H1 locs1 ht hvm hw hB hz1 hk1 hS1 => ?_)
  obtain ⟨hP1, hD1⟩ := hB
  rw [ht] at hP1
  obtain ⟨g1, g2⟩ := my_joinF hP hD isC isR hC hR hn hdis hk1 hF hP1 hD1
  exact kk u H1 locs1 hw g1 g2 hS1
theorem my_calli {post : Int32 → S → Prop} (hr : va_Run p l e R s m args below meth c H locs cells slots mc ms (F0 m pc ls st0) rest (va_Qi post (fun u t => BW dC dI (va_A wc H.size) (w1 u) t) (va_A wc H.size) a) (va_A wc H.size)) (hS : va_S A H0 H locs) (hP : va_P (dC, dI) vwCl (ws ++ F) H) (hD : va_D A (ws ++ F)) (hA : ∀ q, H0.size ≤ q → A q) (isC isR : List Nat) (hC : isC.map (fun i => ws[i]?) = wc.map some) (hR : isR.map (fun i => ws[i]?) = wr.map some) (hn : va_nd isR = true) (hdis : ∀ i ∈ isR, i ∉ isC)
    (kk : ∀ (r : Int32) (u : S) (H1 : Heap) (locs1 : List Loc), post r u → va_P (dC, dI) vwCl ((wr ++ w1 u) ++ F) H1 → va_D A ((wr ++ w1 u) ++ F) → va_S A H0 H1 locs1 → W p l e R s m args below meth c H1 locs1 (cells + mc) (slots + ms) Q (F0 m (pc + 3) ls (.int r :: rest))) : W p l e R s m args below meth c H locs cells slots Q (F0 m pc ls st0) := by
  have hF := my_freeF hD hS hA isC hC
  refine va_calli hr hS (fun q _ h => hF q h) hF (fun r u t H1 locs1 ht hvm hw hB hz1 hk1 hS1 => ?_)
  obtain ⟨hP1, hD1⟩ := hB
  rw [ht] at hP1
  obtain ⟨g1, g2⟩ := my_joinF hP hD isC isR hC hR hn hdis hk1 hF hP1 hD1
  exact kk r u H1 locs1 hw g1 g2 hS1
theorem my_calll {post : Int64 → S → Prop} (hr : va_Run p l e R s m args below meth c H locs cells slots mc ms (F0 m pc ls st0) rest (va_Ql post (fun u t => BW dC dI (va_A wc H.size) (w1 u) t) (va_A wc H.size) a) (va_A wc H.size)) (hS : va_S A H0 H locs) (hP : va_P (dC, dI) vwCl (ws ++ F) H) (hD : va_D A (ws ++ F)) (hA : ∀ q, H0.size ≤ q → A q) (isC isR : List Nat) (hC : isC.map (fun i => ws[i]?) = wc.map some) (hR : isR.map (fun i => ws[i]?) = wr.map some) (hn : va_nd isR = true) (hdis : ∀ i ∈ isR, i ∉ isC)
    (kk : ∀ (r : Int64) (u : S) (H1 : Heap) (locs1 : List Loc), post r u → va_P (dC, dI) vwCl ((wr ++ w1 u) ++ F) H1 → va_D A ((wr ++ w1 u) ++ F) → va_S A H0 H1 locs1 → W p l e R s m args below meth c H1 locs1 (cells + mc) (slots + ms) Q (F0 m (pc + 3) ls (.long r :: rest))) : W p l e R s m args below meth c H locs cells slots Q (F0 m pc ls st0) := by
  have hF := my_freeF hD hS hA isC hC
  refine va_calll hr hS (fun q _ h => hF q h) hF (fun r u t H1 locs1 ht hvm hw hB hz1 hk1 hS1 => ?_)
  obtain ⟨hP1, hD1⟩ := hB
  rw [ht] at hP1
  obtain ⟨g1, g2⟩ := my_joinF hP hD isC isR hC hR hn hdis hk1 hF hP1 hD1
  exact kk r u H1 locs1 hw g1 g2 hS1
/-- calls of readers -/
theorem my_rdi {post : Int32 → Prop} (hr : va_Run p l e R s m args below meth c H locs cells slots 0 0 (F0 m pc ls st0) rest (vp_Si post a) (fun _ => False)) (kk : ∀ r : Int32, post r → W p l e R s m args below meth c H locs cells slots Q (F0 m (pc + 3) ls (.int r :: rest))) : W p l e R s m args below meth c H locs cells slots Q (F0 m pc ls st0) := vp_callSi hr.run kk
theorem my_rdl {post : Int64 → Prop} (hr : va_Run p l e R s m args below meth c H locs cells slots 0 0 (F0 m pc ls st0) rest (vp_Sl post a) (fun _ => False)) (kk : ∀ r : Int64, post r → W p l e R s m args below meth c H locs cells slots Q (F0 m (pc + 3) ls (.long r :: rest))) : W p l e R s m args below meth c H locs cells slots Q (F0 m pc ls st0) := vp_callSl hr.run kk
end MYC
end
section
section MYL
variable {p : Program} {l : Launch} {e : Env} {R : Room} {s : State} {m : MethodId} {args : Array Value} {below : List Frame} {meth : Method} {c : Code} {H : Heap} {locs : List Loc} {cells slots : Nat} {Q : State → Prop}
variable {cc : ByteArray} {pc : Nat} {ls : Array Slot} {rest : List Value}
/-- the top of the stack under another name -/
theorem my_topi {x y : Int32} (h : x = y) (k : W p l e R s m args below meth c H locs cells slots Q (F0 m pc ls (.int y :: rest))) : W p l e R s m args below meth c H locs cells slots Q (F0 m pc ls (.int x :: rest)) := h ▸ k
theorem my_topl {x y : Int64} (h : x = y) (k : W p l e R s m args below meth c H locs cells slots Q (F0 m pc ls (.long y :: rest))) : W p l e R s m args below meth c H locs cells slots Q (F0 m pc ls (.long x :: rest)) := h ▸ k
theorem lcmp_lt (x y : Int64) : lg_cmp x y < 0 ↔ x < y := by
  unfold lg_cmp
  by_cases h1 : y < x
  · have h2 : ¬ x < y := by rw [Int64.lt_iff_toInt_lt] at *; omega
    simp [h1, h2]
  · by_cases h2 : x = y
    · subst h2; simp
    · have h3 : x < y := by
        rw [Int64.lt_iff_toInt_lt] at *
        have h4 : x.toInt ≠ y.toInt := fun h => h2 (Int64.toInt_inj.mp h)
        omega
      simp [h1, h2, h3]
theorem lcmp_gt (x y : Int64) : 0 < lg_cmp x y ↔ y < x := by
  unfold lg_cmp
  by_cases h1 : y < x
  · simp [h1]
  · by_cases h2 : x = y
    · subst h2; simp
    · simp [h1, h2]
theorem lcmp_eq (x y : Int64) : lg_cmp x y = 0 ↔ x = y := by
  unfold lg_cmp
  by_cases h1 : y < x
  · have h2 : ¬ x = y := fun h => by subst h; rw [Int64.lt_iff_toInt_lt] at h1; omega
    simp [h1, h2]
  · by_cases h2 : x = y
    · subst h2; simp
    · simp [h1, h2]
theorem lcmp_ge (x y : Int64) : 0 ≤ lg_cmp x y ↔ ¬ x < y := by
  rw [← lcmp_lt, Int32.not_lt]
theorem lcmp_le (x y : Int64) : lg_cmp x y ≤ 0 ↔ ¬ y < x := by
  rw [← lcmp_gt, Int32.not_lt]
/-- lcmp and the branch behind it -/
theorem my_lif_lt {x y : Int64} {off : Int} {tgt : Nat} (hx : p.tables.exec = Jvm.exec) (hb : c.code = cc) (d1 : decode cc pc = .ok (.lcmp, 1)) (d2 : decode cc (pc + 1) = .ok (.ifCond .lt off, 3)) (ht : ((pc + 1 : Nat) : Int) + off = (tgt : Int)) (kt : x < y → W p l e R s m args below meth c H locs cells slots Q (F0 m tgt ls rest)) (kf : ¬ x < y → W p l e R s m args below meth c H locs cells slots Q (F0 m (pc + 1 + 3) ls rest)) : W p l e R s m args below meth c H locs cells slots Q (F0 m pc ls (.long y :: .long x :: rest)) :=
  W.lcmp hx hb d1 (lv_if_lt hx hb d2 ht (fun h => kt ((lcmp_lt x y).mp h)) (fun h => kf (fun g => h ((lcmp_lt x y).mpr g))))
theorem my_lif_ge {x y : Int64} {off : Int} {tgt : Nat} (hx : p.tables.exec = Jvm.exec) (hb : c.code = cc) (d1 : decode cc pc = .ok (.lcmp, 1)) (d2 : decode cc (pc + 1) = .ok (.ifCond .ge off, 3)) (ht : ((pc + 1 : Nat) : Int) + off = (tgt : Int)) (kt : ¬ x < y → W p l e R s m args below meth c H locs cells slots Q (F0 m tgt ls rest)) (kf : x < y → W p l e R s m args below meth c H locs cells slots Q (F0 m (pc + 1 + 3) ls rest)) : W p l e R s m args below meth c H locs cells slots Q (F0 m pc ls (.long y :: .long x :: rest)) :=
  W.lcmp hx hb d1 (lv_if_ge hx hb d2 ht (fun h => kt ((lcmp_ge x y).mp h)) (fun h => kf (Decidable.byContradiction fun g => h ((lcmp_ge x y).mpr g))))
theorem my_lif_gt {x y : Int64} {off : Int} {tgt : Nat} (hx : p.tables.exec = Jvm.exec) (hb : c.code = cc) (d1 : decode cc pc = .ok (.lcmp, 1)) (d2 : decode cc (pc + 1) = .ok (.ifCond .gt off, 3)) (ht : ((pc + 1 : Nat) : Int) + off = (tgt : Int)) (kt : y < x → W p l e R s m args below meth c H locs cells slots Q (F0 m tgt ls rest)) (kf : ¬ y < x → W p l e R s m args below meth c H locs cells slots Q (F0 m (pc + 1 + 3) ls rest)) : W p l e R s m args below meth c H locs cells slots Q (F0 m pc ls (.long y :: .long x :: rest)) :=
  W.lcmp hx hb d1 (lv_if_gt hx hb d2 ht (fun h => kt ((lcmp_gt x y).mp h)) (fun h => kf (fun g => h ((lcmp_gt x y).mpr g))))
theorem my_lif_le {x y : Int64} {off : Int} {tgt : Nat} (hx : p.tables.exec = Jvm.exec) (hb : c.code = cc) (d1 : decode cc pc = .ok (.lcmp, 1)) (d2 : decode cc (pc + 1) = .ok (.ifCond .le off, 3)) (ht : ((pc + 1 : Nat) : Int) + off = (tgt : Int)) (kt : ¬ y < x → W p l e R s m args below meth c H locs cells slots Q (F0 m tgt ls rest)) (kf : y < x → W p l e R s m args below meth c H locs cells slots Q (F0 m (pc + 1 + 3) ls rest)) : W p l e R s m args below meth c H locs cells slots Q (F0 m pc ls (.long y :: .long x :: rest)) :=
  W.lcmp hx hb d1 (lv_if_le hx hb d2 ht (fun h => kt ((lcmp_le x y).mp h)) (fun h => kf (Decidable.byContradiction fun g => h ((lcmp_le x y).mpr g))))
theorem my_lif_eq {x y : Int64} {off : Int} {tgt : Nat} (hx : p.tables.exec = Jvm.exec) (hb : c.code = cc) (d1 : decode cc pc = .ok (.lcmp, 1)) (d2 : decode cc (pc + 1) = .ok (.ifCond .eq off, 3)) (ht : ((pc + 1 : Nat) : Int) + off = (tgt : Int)) (kt : x = y → W p l e R s m args below meth c H locs cells slots Q (F0 m tgt ls rest)) (kf : ¬ x = y → W p l e R s m args below meth c H locs cells slots Q (F0 m (pc + 1 + 3) ls rest)) : W p l e R s m args below meth c H locs cells slots Q (F0 m pc ls (.long y :: .long x :: rest)) :=
  W.lcmp hx hb d1 (lv_if_eq hx hb d2 ht (fun h => kt ((lcmp_eq x y).mp h)) (fun h => kf (fun g => h ((lcmp_eq x y).mpr g))))
theorem my_lif_ne {x y : Int64} {off : Int} {tgt : Nat} (hx : p.tables.exec = Jvm.exec) (hb : c.code = cc) (d1 : decode cc pc = .ok (.lcmp, 1)) (d2 : decode cc (pc + 1) = .ok (.ifCond .ne off, 3)) (ht : ((pc + 1 : Nat) : Int) + off = (tgt : Int)) (kt : ¬ x = y → W p l e R s m args below meth c H locs cells slots Q (F0 m tgt ls rest)) (kf : x = y → W p l e R s m args below meth c H locs cells slots Q (F0 m (pc + 1 + 3) ls rest)) : W p l e R s m args below meth c H locs cells slots Q (F0 m pc ls (.long y :: .long x :: rest)) :=
  W.lcmp hx hb d1 (lv_if_ne hx hb d2 ht (fun h => kt (fun g => h ((lcmp_eq x y).mpr g))) (fun h => kf ((lcmp_eq x y).mp h)))
end MYL
/-! numbers: compares of nI -/
theorem nc_lt {a b : Nat} (h : nI a < nI b) (ha : a < 2147483648) (hb : b < 2147483648) : a < b := (nI_ltI ha hb).mp h
theorem nc_nlt {a b : Nat} (h : ¬ nI a < nI b) (ha : a < 2147483648) (hb : b < 2147483648) : b ≤ a := Nat.not_lt.mp fun g => h ((nI_ltI ha hb).mpr g)
theorem nc_le {a b : Nat} (h : nI a ≤ nI b) (ha : a < 2147483648) (hb : b < 2147483648) : a ≤ b := (nI_leI ha hb).mp h
theorem nc_nle {a b : Nat} (h : ¬ nI a ≤ nI b) (ha : a < 2147483648) (hb : b < 2147483648) : b < a := Nat.not_le.mp fun g => h ((nI_leI ha hb).mpr g)
theorem nc_eq {a b : Nat} (h : nI a = nI b) (ha : a < 2147483648) (hb : b < 2147483648) : a = b := (nI_eq ha hb).mp h
theorem nc_ne {a b : Nat} (h : ¬ nI a = nI b) (ha : a < 2147483648) (hb : b < 2147483648) : a ≠ b := fun g => h ((nI_eq ha hb).mpr g)
theorem nI_max (a b : Nat) (ha : a < 2147483648) (hb : b < 2147483648) : (if nI a < nI b then nI b else nI a) = nI (max a b) := by
  by_cases h : a < b
  · rw [if_pos ((nI_ltI ha hb).mpr h), Nat.max_eq_right (Nat.le_of_lt h)]
  · rw [if_neg (fun g => h ((nI_ltI ha hb).mp g)), Nat.max_eq_left (by omega)]
theorem nI_min (a b : Nat) (ha : a < 2147483648) (hb : b < 2147483648) : (if nI b < nI a then nI b else nI a) = nI (min a b) := by
  by_cases h : b < a
  · rw [if_pos ((nI_ltI hb ha).mpr h), Nat.min_eq_right (by omega)]
  · rw [if_neg (fun g => h ((nI_ltI hb ha).mp g)), Nat.min_eq_left (by omega)]
section MYA
variable {p : Program} {l : Launch} {e : Env} {R : Room} {s : State} {m : MethodId} {args : Array Value} {below : List Frame} {meth : Method} {c : Code} {H : Heap} {locs : List Loc} {cells slots : Nat} {Q : State → Prop}
variable {cc : ByteArray} {rt : Option FieldType} {nL : Nat} {own nm : String} {Ts : List Cond} {pc : Nat} {ls : Array Slot} {rest : List Value} {dC : Nat → ClassId} {dI : Nat → Nat → Nat} {cI cJ cO : ClassId} {A : Nat → Prop} {a : Nat} {ws : va_W} {H0 : Heap} {n k : Nat} {i : Int32}
/-- arrays at a place that is a natural number -/
theorem my_iald {f : Nat → Int32} (hx : p.tables.exec = Jvm.exec) (hb : c.code = cc) (hK : Kn dC dI cI cJ cO s) (hP : va_P (dC, dI) vwCl ws H) (q0 : Nat) (ha : ws[q0]? = some (a, .inl (cI, n, .inl f))) (hi : i = nI k) (hk : k < n) (hn : n < 2147483648) (hdg : decode cc pc = .ok (.iaload, 1))
    (kk : W p l e R s m args below meth c H locs cells slots Q (F0 m (pc + 1) ls (.int (f k) :: rest))) : W p l e R s m args below meth c H locs cells slots Q (F0 m pc ls (.int i :: .ref a :: rest)) := by
  subst hi
  refine va_iald hx hb hK.1 hP q0 0 ha rfl (vp_in_nI hk hn) hdg ?_
  rw [nI_clamp (by omega)]
  exact kk
theorem my_lald {f : Nat → Int64} (hx : p.tables.exec = Jvm.exec) (hb : c.code = cc) (hK : Kn dC dI cI cJ cO s) (hP : va_P (dC, dI) vwCl ws H) (q0 : Nat) (ha : ws[q0]? = some (a, .inl (cJ, n, .inr (.inl f)))) (hi : i = nI k) (hk : k < n) (hn : n < 2147483648) (hdg : decode cc pc = .ok (.laload, 1))
    (kk : W p l e R s m args below meth c H locs cells slots Q (F0 m (pc + 1) ls (.long (f k) :: rest))) : W p l e R s m args below meth c H locs cells slots Q (F0 m pc ls (.int i :: .ref a :: rest)) := by
  subst hi
  refine va_lald hx hb hK.1 hP q0 1 ha rfl (vp_in_nI hk hn) hdg ?_
  rw [nI_clamp (by omega)]
  exact kk
theorem my_aldq {f : Nat → Option Nat} (hx : p.tables.exec = Jvm.exec) (hb : c.code = cc) (hK : Kn dC dI cI cJ cO s) (hP : va_P (dC, dI) vwCl ws H) (q0 : Nat) (ha : ws[q0]? = some (a, .inl (cO, n, .inr (.inr (.inr (.inr f)))))) (hi : i = nI k) (hk : k < n) (hn : n < 2147483648) (hdg : decode cc pc = .ok (.aaload, 1))
    (kk : W p l e R s m args below meth c H locs cells slots Q (F0 m (pc + 1) ls (va_rf (f k) :: rest))) : W p l e R s m args below meth c H locs cells slots Q (F0 m pc ls (.int i :: .ref a :: rest)) := by
  subst hi
  refine va_aldq hx hb hK.1 hP q0 2 ha rfl (vp_in_nI hk hn) hdg ?_
  rw [nI_clamp (by omega)]
  exact kk
theorem my_iast {f : Nat → Int32} {x : Int32} (hx : p.tables.exec = Jvm.exec) (hb : c.code = cc) (hK : Kn dC dI cI cJ cO s) (hP : va_P (dC, dI) vwCl ws H) (hD : va_D A ws) (hS : va_S A H0 H locs) (q0 : Nat) (ha : ws[q0]? = some (a, .inl (cI, n, .inl f))) (hi : i = nI k) (hk : k < n) (hn : n < 2147483648) (hdg : decode cc pc = .ok (.iastore, 1))
    (kk : ∀ (H1 : Heap) (locs1 : List Loc), va_P (dC, dI) vwCl (ws.set q0 (a, .inl (cI, n, .inl (upd f k x)))) H1 → va_D A (ws.set q0 (a, .inl (cI, n, .inl (upd f k x)))) → va_S A H0 H1 locs1 → W p l e R s m args below meth c H1 locs1 cells slots Q (F0 m (pc + 1) ls rest)) : W p l e R s m args below meth c H locs cells slots Q (F0 m pc ls (.int x :: .int i :: .ref a :: rest)) := by
  subst hi
  refine va_iast hx hb hK.1 hP hD hS q0 0 ha rfl (vp_in_nI hk hn) hdg ?_
  rw [nI_clamp (by omega)]
  exact kk
theorem my_last {f : Nat → Int64} {x : Int64} (hx : p.tables.exec = Jvm.exec) (hb : c.code = cc) (hK : Kn dC dI cI cJ cO s) (hP : va_P (dC, dI) vwCl ws H) (hD : va_D A ws) (hS : va_S A H0 H locs) (q0 : Nat) (ha : ws[q0]? = some (a, .inl (cJ, n, .inr (.inl f)))) (hi : i = nI k) (hk : k < n) (hn : n < 2147483648) (hdg : decode cc pc = .ok (.lastore, 1))
    (kk : ∀ (H1 : Heap) (locs1 : List Loc), va_P (dC, dI) vwCl (ws.set q0 (a, .inl (cJ, n, .inr (.inl (vp_updL f k x))))) H1 → va_D A (ws.set q0 (a, .inl (cJ, n, .inr (.inl (vp_updL f k x))))) → va_S A H0 H1 locs1 → W p l e R s m args below meth c H1 locs1 cells slots Q (F0 m (pc + 1) ls rest)) : W p l e R s m args below meth c H locs cells slots Q (F0 m pc ls (.long x :: .int i :: .ref a :: rest)) := by
  subst hi
  refine va_last hx hb hK.1 hP hD hS q0 1 ha rfl (vp_in_nI hk hn) hdg ?_
  rw [nI_clamp (by omega)]
  exact kk
theorem my_cI (hK : Kn dC dI cI cJ cO s) {cA : ClassId} {tys : List (ClassId × FieldType)} (h : va_K (dC, dI) vwCl (tys ++ [(cA, .int)]) s) : cA = cI := by
  have h1 : s.vm.findClass ("[" ++ FieldType.int.toString) = some cA := (h.2 tys.length (cA, .int) (by simp)).2
  have h2 : s.vm.findClass ("[" ++ FieldType.int.toString) = some cI := (hK.1.2 0 (cI, .int) rfl).2
  exact Option.some.inj (h1.symm.trans h2)
theorem my_cJ (hK : Kn dC dI cI cJ cO s) {cA : ClassId} {tys : List (ClassId × FieldType)} (h : va_K (dC, dI) vwCl (tys ++ [(cA, .long)]) s) : cA = cJ := by
  have h1 : s.vm.findClass ("[" ++ FieldType.long.toString) = some cA := (h.2 tys.length (cA, .long) (by simp)).2
  have h2 : s.vm.findClass ("[" ++ FieldType.long.toString) = some cJ := (hK.1.2 1 (cJ, .long) rfl).2
  exact Option.some.inj (h1.symm.trans h2)
theorem my_newi {N : Nat} (X : Cx p s m args meth c cc rt nL own nm Ts) (hK : Kn dC dI cI cJ cO s) (hw : Cond.arrayClass .int ∈ Ts) (hP : va_P (dC, dI) vwCl ws H) (hD : va_D A ws) (hS : va_S A H0 H locs) (hA : ∀ q, H0.size ≤ q → A q) (hi : i = nI N) (hN : N < 2147483648) (hbytes : N * 4 ≤ 536870912) (hcells : cells + 1 ≤ R.cells) (hslots : slots + N ≤ R.slots) (hdg : decode cc pc = .ok (.newarray .int, 2))
    (kk : ∀ (q : Nat) (H1 : Heap), va_P (dC, dI) vwCl (ws ++ [(q, .inl (cI, N, .inl (fun _ => 0)))]) H1 → va_D A (ws ++ [(q, .inl (cI, N, .inl (fun _ => 0)))]) → va_S A H0 H1 locs → W p l e R s m args below meth c H1 locs (cells + 1) (slots + N) Q (F0 m (pc + 2) ls (.ref q :: rest))) : W p l e R s m args below meth c H locs cells slots Q (F0 m pc ls (.int i :: rest)) := by
  obtain ⟨hx, hb, -, -, hown, hts, -⟩ := X
  subst hi
  refine va_newa (atype := .int) (ty := .int) (N' := N) (a0 := (N, .inl (fun _ => 0))) hx hb (hts _ hw) rfl hK.1 hP hD hS hA (fun cA => by rw [vp_cell_i]; rfl) (nI_pos hN) (nI_clamp hN) hbytes hcells hslots hdg (fun q cA H1 hK1 hP1 hD1 hS1 => ?_)
  have hc := my_cI hK hK1
  subst hc
  exact kk q H1 hP1 hD1 hS1
theorem my_newl {N : Nat} (X : Cx p s m args meth c cc rt nL own nm Ts) (hK : Kn dC dI cI cJ cO s) (hw : Cond.arrayClass .long ∈ Ts) (hP : va_P (dC, dI) vwCl ws H) (hD : va_D A ws) (hS : va_S A H0 H locs) (hA : ∀ q, H0.size ≤ q → A q) (hi : i = nI N) (hN : N < 2147483648) (hbytes : N * 8 ≤ 536870912) (hcells : cells + 1 ≤ R.cells) (hslots : slots + N ≤ R.slots) (hdg : decode cc pc = .ok (.newarray .long, 2))
    (kk : ∀ (q : Nat) (H1 : Heap), va_P (dC, dI) vwCl (ws ++ [(q, .inl (cJ, N, .inr (.inl (fun _ => 0))))]) H1 → va_D A (ws ++ [(q, .inl (cJ, N, .inr (.inl (fun _ => 0))))]) → va_S A H0 H1 locs → W p l e R s m args below meth c H1 locs (cells + 1) (slots + N) Q (F0 m (pc + 2) ls (.ref q :: rest))) : W p l e R s m args below meth c H locs cells slots Q (F0 m pc ls (.int i :: rest)) := by
  obtain ⟨hx, hb, -, -, hown, hts, -⟩ := X
  subst hi
  refine va_newa (atype := .long) (ty := .long) (N' := N) (a0 := (N, .inr (.inl (fun _ => 0)))) hx hb (hts _ hw) rfl hK.1 hP hD hS hA (fun cA => by rw [vp_cell_l]; rfl) (nI_pos hN) (nI_clamp hN) hbytes hcells hslots hdg (fun q cA H1 hK1 hP1 hD1 hS1 => ?_)
  have hc := my_cJ hK hK1
  subst hc
  exact kk q H1 hP1 hD1 hS1
end MYA
section MYN
variable {p : Program} {l : Launch} {e : Env} {R : Room} {s : State} {m : MethodId} {args : Array Value} {below : List Frame} {meth : Method} {c : Code} {H : Heap} {locs : List Loc} {cells slots mc ms : Nat} {Q : State → Prop}
variable {cc : ByteArray} {rt : Option FieldType} {nL : Nat} {own nm : String} {Ts : List Cond} {pc index : Nat} {ls : Array Slot} {st0 rest : List Value} {dC : Nat → ClassId} {dI : Nat → Nat → Nat} {cI cJ cO : ClassId} {A : Nat → Prop} {a a0 : Nat} {ws wc wr F : va_W} {H0 : Heap} {w1 : Nat → va_W} {aa : Array Value}
/-- System.arraycopy of ints, places and number natural -/
theorem my_copyi {f g : Nat → Int32} {n0 n1 sp dp n : Nat} {spI dpI nI' : Int32} (X : Cx p s m args meth c cc rt nL own nm Ts) (hK : Kn dC dI cI cJ cO s) (hlink : Cond.methodLink own index arraycopyName ∈ Ts) (hnat : Cond.native arraycopyName ∈ Ts) (hstat : Cond.static arraycopyName ∈ Ts) (hini : Cond.initialized "java/lang/System" ∈ Ts)
    (hP : va_P (dC, dI) vwCl ws H) (hD : va_D A ws) (hS : va_S A H0 H locs) (q0 q1 : Nat) (ha0 : ws[q0]? = some (a0, .inl (cI, n0, .inl f))) (ha1 : ws[q1]? = some (a, .inl (cI, n1, .inl g))) (e1 : spI = nI sp) (e2 : dpI = nI dp) (e3 : nI' = nI n) (h4 : sp + n ≤ n0) (h5 : dp + n ≤ n1) (b0 : n0 < 2147483648) (b1 : n1 < 2147483648)
    (hframes : 1 ≤ R.frames) (hlocals : (rest.map fun v => v.category).sum + (nativeFrameWords "java/lang/System" "arraycopy" 5 + 11) ≤ R.locals) (hsize : ls.size = nL) (hdg : decode cc pc = .ok (.invokestatic index, 3))
    (kk : ∀ (H1 : Heap) (locs1 : List Loc), va_P (dC, dI) vwCl (ws.set q1 (a, .inl (cI, n1, .inl (va_cpy f g sp dp n)))) H1 → va_D A (ws.set q1 (a, .inl (cI, n1, .inl (va_cpy f g sp dp n)))) → va_S A H0 H1 locs1 → W p l e R s m args below meth c H1 locs1 cells slots Q (F0 m (pc + 3) ls rest)) : W p l e R s m args below meth c H locs cells slots Q (F0 m pc ls (.int nI' :: .int dpI :: .ref a :: .int spI :: .ref a0 :: rest)) := by
  obtain ⟨hx, hb, -, hml, hown, hts, -⟩ := X
  subst e1; subst e2; subst e3
  have k1 : (nI sp).toNatClampNeg = sp := nI_clamp (by omega)
  have k2 : (nI dp).toNatClampNeg = dp := nI_clamp (by omega)
  have k3 : (nI n).toNatClampNeg = n := nI_clamp (by omega)
  refine va_copyi hx hb (hml.trans hsize.symm) hown (hts _ hlink) (hts _ hnat) (hts _ hstat) (hts _ hini) hK.1 hP hD hS q0 q1 0 0 (ty := .int) ha0 ha1 rfl rfl rfl (nI_pos (by omega)) (nI_pos (by omega)) (nI_pos (by omega)) (by rw [k1, k3]; exact h4) (by rw [k2, k3]; exact h5) (fun _ _ => rfl) hframes hlocals hdg ?_
  rw [k1, k2, k3]
  exact kk
theorem my_aret {WSf : Nat → va_W} {v : Nat} (X : Cx p s m args meth c cc (some (.array .int)) nL own nm Ts) (hP : va_P (dC, dI) vwCl (WSf v) H) (hD : va_D A (WSf v)) (hS : va_S A s.heap H locs) (hc : cells ≤ mc) (hs : slots ≤ ms) (d : decode cc pc = .ok (.areturn, 1)) :
    W p l e R s m args below meth c H locs cells slots (MQ below (va_Qr (fun _ : Unit => True) (fun (_ : Unit) (ra : Nat) t => BW dC dI A (WSf ra) t) A) args s mc ms A) (F0 m pc ls [.ref v]) := by
  obtain ⟨hx, hb, hr, -, -, -, hlocks, -⟩ := X
  refine W.widen hc hs ?_
  exact W.aret (v := .ref v) (rt := .array .int) hx hb hr (Or.inr ⟨_, rfl⟩) (Or.inr ⟨_, rfl⟩) (fun t ht hW => ⟨⟨(), v, rfl, trivial, by rw [ht]; exact hP, hD⟩, hS.F ht⟩) hS.2.2 d
theorem my_callr (hr : va_Run p l e R s m args below meth c H locs cells slots mc ms (F0 m pc ls st0) rest (va_Qr (fun _ : Unit => True) (fun (_ : Unit) (ra : Nat) t => BW dC dI (va_A wc H.size) (w1 ra) t) (va_A wc H.size) aa) (va_A wc H.size)) (hS : va_S A H0 H locs) (hP : va_P (dC, dI) vwCl (ws ++ F) H) (hD : va_D A (ws ++ F)) (hA : ∀ q, H0.size ≤ q → A q) (isC isR : List Nat) (hC : isC.map (fun i => ws[i]?) = wc.map some) (hR : isR.map (fun i => ws[i]?) = wr.map some) (hn : va_nd isR = true) (hdis : ∀ i ∈ isR, i ∉ isC)
    (kk : ∀ (ra : Nat) (H1 : Heap) (locs1 : List Loc), va_P (dC, dI) vwCl ((wr ++ w1 ra) ++ F) H1 → va_D A ((wr ++ w1 ra) ++ F) → va_S A H0 H1 locs1 → W p l e R s m args below meth c H1 locs1 (cells + mc) (slots + ms) Q (F0 m (pc + 3) ls (.ref ra :: rest))) : W p l e R s m args below meth c H locs cells slots Q (F0 m pc ls st0) := by
  have hF := my_freeF hD hS hA isC hC
  refine va_callr hr hS (fun q _ h => hF q h) hF (fun u ra t H1 locs1 ht hvm hw hB hz1 hk1 hS1 => ?_)
  obtain ⟨hP1, hD1⟩ := hB
  rw [ht] at hP1
  obtain ⟨g1, g2⟩ := my_joinF hP hD isC isR hC hR hn hdis hk1 hF hP1 hD1
  exact kk ra H1 locs1 g1 g2 hS1
end MYN
end
section
/-! pure words of the class's leaves -/
def szL (v : Int64) : Int32 := if v < (-1073741823) ∨ 1073741823 < v then 0 else 1
def sol (k : Int32) : Int32 := if k = 2 ∨ k = 4 then 1 else 0
def glu (w s o z : Int32) : Int32 := if szL w.toInt64 = 1 ∧ szL s.toInt64 = 1 ∧ ¬ s < 0 ∧ ¬ o < 0 ∧ ¬ 4 ≤ o ∧ szL z.toInt64 = 1 ∧ ¬ z < 0 then 1 else 0
def bd1 (r : Int64) : Int64 := if 1290 < r then 10000 else (r * r * r + 131072) / 262144
def bdn (t s : Int64) : Int64 := if t = 0 then 0 else if 0 < s then bd1 (297 * t / s) else 10000
def abL (a : Int64) : Int64 := if 0 < a then a else -a
def nea (a b : Int64) : Int64 := if 0 < b then (if a < 0 then -((2 * abL a + b) / (2 * b)) else (2 * abL a + b) / (2 * b)) else 0
theorem szL_01 (v : Int64) : szL v = 0 ∨ szL v = 1 := by unfold szL; split <;> simp
theorem glu_01 (w s o z : Int32) : glu w s o z = 0 ∨ glu w s o z = 1 := by unfold glu; split <;> simp
theorem sol_01 (k : Int32) : sol k = 0 ∨ sol k = 1 := by unfold sol; split <;> simp
theorem l2_ne {b : Int64} (h : 0 < b) : ¬ (2 : Int64) * b = 0 := by
  intro g
  have h1 := congrArg Int64.toInt g
  rw [Int64.toInt_mul] at h1
  rw [Int64.lt_iff_toInt_lt] at h
  have h2 := Int64.toInt_lt b
  have e0 : (0 : Int64).toInt = 0 := rfl
  have e2 : (2 : Int64).toInt = 2 := rfl
  rw [e0] at h
  rw [e0, e2] at h1
  simp only [Int.bmod] at h1
  split at h1 <;> omega
theorem lpos_ne {s : Int64} (h : 0 < s) : ¬ s = 0 := by
  intro g; subst g; exact absurd h (by decide)
/-- an item's eight numbers; a row of items with one of them written; eight places set to 0 one by one -/
def it8 (k w h d sh st o z : Int32) : Nat → Int32 := fun j => if j = 0 then k else if j = 1 then w else if j = 2 then h else if j = 3 then d else if j = 4 then sh else if j = 5 then st else if j = 6 then o else z
def ip (f : Nat → Int32) (i : Nat) (it : Nat → Int32) : Nat → Int32 := fun j => if j / 8 = i then it (j % 8) else f j
def zp (f : Nat → Int32) (i t : Nat) : Nat → Int32 := fun j => if j / 8 = i ∧ j % 8 < t then 0 else f j
theorem zp_0 (f : Nat → Int32) (i : Nat) : zp f i 0 = f := by funext j; simp [zp]
theorem zp_s (f : Nat → Int32) (i : Nat) {t : Nat} (ht : t < 8) : upd (zp f i t) (i * 8 + t) 0 = zp f i (t + 1) := by
  funext j
  by_cases h : j = i * 8 + t
  · have h1 : j / 8 = i := by omega
    have h2 : j % 8 = t := by omega
    simp [upd, zp, h, show (i * 8 + t) / 8 = i by omega, show (i * 8 + t) % 8 = t by omega]
  · have h1 : (j / 8 = i ∧ j % 8 < t) ↔ (j / 8 = i ∧ j % 8 < t + 1) := by omega
    simp only [upd, zp, if_neg h, h1]
theorem ip_plain (f : Nat → Int32) (i : Nat) (k w : Int32) : upd (upd (zp f i 8) (i * 8 + 0) k) (i * 8 + 1) w = ip f i (it8 k w 0 0 0 0 0 0) := by
  funext j
  by_cases h1 : j = i * 8 + 1
  · simp [upd, ip, it8, h1, show (i * 8 + 1) / 8 = i by omega, show (i * 8 + 1) % 8 = 1 by omega]
  · by_cases h0 : j = i * 8 + 0
    · simp [upd, ip, it8, h0, show (i * 8 + 0) / 8 = i by omega, show (i * 8 + 0) % 8 = 0 by omega]
    · simp only [upd, if_neg h1, if_neg h0, zp, ip, it8]
      by_cases h : j / 8 = i
      · have h2 : j % 8 < 8 := Nat.mod_lt _ (by decide)
        have h3 : j % 8 ≠ 0 := by omega
        have h4 : j % 8 ≠ 1 := by omega
        simp [h, h2, h3, h4]
      · simp [h]
theorem ip_upd (f : Nat → Int32) (i j0 : Nat) (hj : j0 < 8) (it : Nat → Int32) (x : Int32) : upd (ip f i it) (i * 8 + j0) x = ip f i (upd it j0 x) := by
  funext j
  by_cases h : j = i * 8 + j0
  · simp [upd, ip, h, show (i * 8 + j0) / 8 = i by omega, show (i * 8 + j0) % 8 = j0 by omega]
  · simp only [upd, ip, if_neg h]
    by_cases h1 : j / 8 = i
    · have h2 : j % 8 ≠ j0 := by omega
      simp [h1, h2]
    · simp [h1]
theorem it8_solid (k w h d sh : Int32) : upd (upd (upd (it8 k w 0 0 0 0 0 0) 2 h) 3 d) 4 sh = it8 k w h d sh 0 0 0 := by
  funext j
  simp only [upd, it8]
  by_cases h4 : j = 4
  · simp [h4]
  · by_cases h3 : j = 3
    · simp [h3]
    · by_cases h2 : j = 2
      · simp [h2]
      · simp [h2, h3, h4]
theorem it8_glue (w st o z : Int32) : upd (upd (upd (it8 5 w 0 0 0 0 0 0) 5 st) 6 o) 7 z = fun j => if j ≤ 7 then it8 5 w 0 0 0 st o z j else 0 := by
  funext j
  simp only [upd, it8]
  by_cases h7 : j = 7
  · simp [h7]
  · by_cases h6 : j = 6
    · simp [h6]
    · by_cases h5 : j = 5
      · simp [h5]
      · by_cases hl : j ≤ 7
        · have : j = 0 ∨ j = 1 ∨ j = 2 ∨ j = 3 ∨ j = 4 := by omega
          rcases this with h | h | h | h | h <;> subst h <;> simp
        · have h0 : j ≠ 0 := by omega
          have h1 : j ≠ 1 := by omega
          have h2 : j ≠ 2 := by omega
          have h3 : j ≠ 3 := by omega
          have h4 : j ≠ 4 := by omega
          simp [h0, h1, h2, h3, h4, h5, h6, h7, hl]
theorem ip_glue (f : Nat → Int32) (i : Nat) (w st o z : Int32) : upd (upd (upd (ip f i (it8 5 w 0 0 0 0 0 0)) (i * 8 + 5) st) (i * 8 + 6) o) (i * 8 + 7) z = ip f i (it8 5 w 0 0 0 st o z) := by
  rw [ip_upd _ _ _ (by decide), ip_upd _ _ _ (by decide), ip_upd _ _ _ (by decide), it8_glue]
  funext j
  simp only [ip]
  by_cases h : j / 8 = i
  · have h2 : j % 8 ≤ 7 := by omega
    simp [h, h2]
  · simp [h]
theorem ip_solid (f : Nat → Int32) (i : Nat) (k w h d sh : Int32) : upd (upd (upd (ip f i (it8 k w 0 0 0 0 0 0)) (i * 8 + 2) h) (i * 8 + 3) d) (i * 8 + 4) sh = ip f i (it8 k w h d sh 0 0 0) := by
  rw [ip_upd _ _ _ (by decide), ip_upd _ _ _ (by decide), ip_upd _ _ _ (by decide), it8_solid]
/-- the room of a row of items: cap items; what it grows to when n are asked for -/
def gcap (n cap : Nat) : Nat := if n ≤ cap then cap else min 4001 (max n (2 * cap))
def gmc (n cap : Nat) : Nat := if n ≤ cap then 0 else 1
def gms (n cap : Nat) : Nat := if n ≤ cap then 0 else 8 * min 4001 (max n (2 * cap))
theorem gcap_ge (n cap : Nat) (h : n ≤ 4001) : n ≤ gcap n cap := by unfold gcap; split <;> omega
theorem gcap_le (n cap : Nat) (h : cap ≤ 4001) : gcap n cap ≤ 4001 := by unfold gcap; split <;> omega
theorem gcap_mono (n cap : Nat) (h : cap ≤ 4001) : cap ≤ gcap n cap := by unfold gcap; split <;> omega
theorem i_ne {x k : Int32} (h : ¬ x = k) : x.toInt ≠ k.toInt := fun g => h (Int32.toInt_inj.mp g)
theorem ix4 {x : Int32} (h1 : ¬ x < 0) (h2 : ¬ 4 ≤ x) : ∃ j : Nat, j < 4 ∧ x = nI j := by
  obtain ⟨j, hj, e⟩ := nI_of h1
  refine ⟨j, ?_, e⟩
  subst e
  exact nc_nle (a := 4) (b := j) h2 (by decide) hj
/-- what an item does to the sums -/
def tkG (g : Nat → Int64) (it : Nat → Int32) : Nat → Int64 := if ¬ it 6 < 0 ∧ ¬ 4 ≤ it 6 then vp_updL g (it 6).toNatClampNeg (g (it 6).toNatClampNeg + (it 5).toInt64) else g
def miL (a b : Int64) : Int64 := if b < a then b else a
def maL (a b : Int64) : Int64 := if b < a then a else b
def tS (g : Nat → Int64) (it : Nat → Int32) : Nat → Int64 := if it 0 = 5 then tkG g it else g
def tZ (z : Int64) (it : Nat → Int32) : Int64 := if it 0 = 5 then z + (it 7).toInt64 else z
def tA (al : Int64) (it : Nat → Int32) : Int64 := if it 0 = 2 ∨ it 0 = 4 then al + ((it 2).toInt64 + (it 3).toInt64) else if it 0 = 5 ∨ it 0 = 6 then al + (it 1).toInt64 else al
def tD (lim : Int32) (it : Nat → Int32) : Int64 := if it 0 = 2 ∨ it 0 = 4 then miL (it 3).toInt64 lim.toInt64 else 0
def tW (wd : Int64) (it : Nat → Int32) : Int64 := if it 0 = 2 ∨ it 0 = 4 then maL wd ((it 1).toInt64 + (it 4).toInt64) else wd
/-- the highest order of which there is stretch; sizes -/
def hiO (g : Nat → Int64) : Int32 := if 0 < g 3 then 3 else if 0 < g 2 then 2 else if 0 < g 1 then 1 else if 0 < g 0 then 0 else -1
def arS (g : Nat → Int64) (tot z wd : Int64) : Int32 := if szL (g 0) = 1 ∧ szL (g 1) = 1 ∧ szL (g 2) = 1 ∧ szL (g 3) = 1 ∧ szL tot = 1 ∧ szL z = 1 ∧ szL wd = 1 then 1 else 0
def soF (g : Nat → Int64) (o : Int32) : Int64 := if ¬ o < 0 ∧ ¬ 4 ≤ o then g o.toNatClampNeg else 0
def bnw (goal : Int32) (tot z : Int64) (g : Nat → Int64) : Int64 := if goal.toInt64 - tot < 0 then (if z < -(goal.toInt64 - tot) then -1 else bdn (-(goal.toInt64 - tot)) z) else if hiO g ≤ 0 then bdn (goal.toInt64 - tot) (g 0) else 0
def cst (b : Int64) (q : Int32) : Int64 := if -10000 < q then (if b < 10000 then b + q.toInt64 else 100000) else q.toInt64
theorem b01n {x : Int32} (h : x = 0 ∨ x = 1) (g : ¬ x = 0) : x = 1 := h.resolve_left g
theorem my_cpy {f g : Nat → Int32} {sp n j : Nat} (h : j < n) : va_cpy f g sp 0 n j = f (sp + j) := pk_cpy_in (Nat.zero_le _) (by omega)
theorem soF_0 (g : Nat → Int64) : soF g 0 = g 0 := by simp [soF]
end
section
set_option maxHeartbeats 200000 in
set_option maxRecDepth 100000 in
theorem c_isSize (l : Launch) (dC : Nat → ClassId) (dI : Nat → Nat → Nat) (cI cJ cO : ClassId) (v : Int64)  : Met l yX5_isSize wsX5_isSize ({ frames := 0, cells := 0, slots := 0, locals := 0 }) (va_Pc [.long v] (PR dC dI cI cJ cO [])) (vp_Si (fun r : Int32 => r = szL v)) 0 0 (fun _ => False) := by
  refine my_met (ws := wsX5_isSize) (cc := cX5_isSize) (maxL := 2) (ret := (some .boolean)) (by decide) rfl (Nat.le_of_ble_eq_true rfl) ?_
  intro p e s m below meth c ls X hl hv
  obtain ⟨hP, hK⟩ := hv
  obtain ⟨hx, hb, hr, hml, hown, hts, hlocks, hnm⟩ := id X
  have hl : lv_has ls 2 [(0, .long v)] := hl
  refine lv_lload_n hx hb dX5_isSize_0 rfl (lv_at hl 0 rfl) ?_
  refine lv_ldc2 (v := (-1073741823)) hx hb hown (hts _ (List.mem_of_getElem? (i := 1) rfl)) dX5_isSize_1 ?_
  refine my_lif_lt (tgt := 20) hx hb dX5_isSize_4 dX5_isSize_5 (by decide) (fun c_4 => ?_) (fun c_4 => ?_)
  · refine lv_iconst (v := 0) hx hb dX5_isSize_20 (by decide) ?_
    exact my_zretR X rfl (by simp [szL, c_4]) dX5_isSize_21
  · refine lv_lload_n hx hb dX5_isSize_8 rfl (lv_at hl 0 rfl) ?_
    refine lv_ldc2 (v := (1073741823)) hx hb hown (hts _ (List.mem_of_getElem? (i := 2) rfl)) dX5_isSize_9 ?_
    refine my_lif_gt (tgt := 20) hx hb dX5_isSize_12 dX5_isSize_13 (by decide) (fun c_12 => ?_) (fun c_12 => ?_)
    · refine lv_iconst (v := 0) hx hb dX5_isSize_20 (by decide) ?_
      exact my_zretR X rfl (by simp [szL, c_4, c_12]) dX5_isSize_21
    · refine lv_iconst (v := 1) hx hb dX5_isSize_16 (by decide) ?_
      refine lv_goto (tgt := 21) hx hb dX5_isSize_17 (by decide) ?_
      exact my_zretR X rfl (by simp [szL, c_4, c_12]) dX5_isSize_21
set_option maxHeartbeats 200000 in
set_option maxRecDepth 100000 in
theorem c_isSolid (l : Launch) (dC : Nat → ClassId) (dI : Nat → Nat → Nat) (cI cJ cO : ClassId) (k : Int32)  : Met l yX5_isSolid wsX5_isSolid ({ frames := 0, cells := 0, slots := 0, locals := 0 }) (va_Pc [.int k] (PR dC dI cI cJ cO [])) (vp_Si (fun r : Int32 => r = sol k)) 0 0 (fun _ => False) := by
  refine my_met (ws := wsX5_isSolid) (cc := cX5_isSolid) (maxL := 1) (ret := (some .boolean)) (by decide) rfl (Nat.le_of_ble_eq_true rfl) ?_
  intro p e s m below meth c ls X hl hv
  obtain ⟨hP, hK⟩ := hv
  obtain ⟨hx, hb, hr, hml, hown, hts, hlocks, hnm⟩ := id X
  have hl : lv_has ls 1 [(0, .int k)] := hl
  refine lv_iload_n hx hb dX5_isSolid_0 rfl (lv_at hl 0 rfl) ?_
  refine lv_iconst (v := 2) hx hb dX5_isSolid_1 (by decide) ?_
  refine lv_icmp_eq (tgt := 10) hx hb dX5_isSolid_2 (by decide) (fun c_2 => ?_) (fun c_2 => ?_)
  · refine lv_iconst (v := 1) hx hb dX5_isSolid_10 (by decide) ?_
    refine lv_goto (tgt := 15) hx hb dX5_isSolid_11 (by decide) ?_
    exact my_zretR X rfl (by simp [sol, c_2]) dX5_isSolid_15
  · refine lv_iload_n hx hb dX5_isSolid_5 rfl (lv_at hl 0 rfl) ?_
    refine lv_iconst (v := 4) hx hb dX5_isSolid_6 (by decide) ?_
    refine lv_icmp_ne (tgt := 14) hx hb dX5_isSolid_7 (by decide) (fun c_7 => ?_) (fun c_7 => ?_)
    · refine lv_iconst (v := 0) hx hb dX5_isSolid_14 (by decide) ?_
      exact my_zretR X rfl (by simp [sol, c_2, c_7]) dX5_isSolid_15
    · refine lv_iconst (v := 1) hx hb dX5_isSolid_10 (by decide) ?_
      refine lv_goto (tgt := 15) hx hb dX5_isSolid_11 (by decide) ?_
      exact my_zretR X rfl (by simp [sol, c_2, c_7]) dX5_isSolid_15
set_option maxHeartbeats 200000 in
set_option maxRecDepth 100000 in
theorem c_isGlue (l : Launch) (dC : Nat → ClassId) (dI : Nat → Nat → Nat) (cI cJ cO : ClassId) (w : Int32) (st : Int32) (o : Int32) (z : Int32)  : Met l yX5_isGlue wsX5_isGlue ({ frames := 1, cells := 0, slots := 0, locals := 30 }) (va_Pc [.int w, .int st, .int o, .int z] (PR dC dI cI cJ cO [])) (vp_Si (fun r : Int32 => r = glu w st o z)) 0 0 (fun _ => False) := by
  refine my_met (ws := wsX5_isGlue) (cc := cX5_isGlue) (maxL := 4) (ret := (some .boolean)) (by decide) rfl (Nat.le_of_ble_eq_true rfl) ?_
  intro p e s m below meth c ls X hl hv
  obtain ⟨hP, hK⟩ := hv
  obtain ⟨hx, hb, hr, hml, hown, hts, hlocks, hnm⟩ := id X
  have hl : lv_has ls 4 [(0, .int w), (1, .int st), (2, .int o), (3, .int z)] := hl
  refine lv_iload_n hx hb dX5_isGlue_0 rfl (lv_at hl 0 rfl) ?_
  refine lv_i2l (v := w.toInt64) hx hb dX5_isGlue_1 rfl ?_
  have hPc := hP.sub (ws' := []) [] rfl
  refine my_rdi (my_runS (n := 1) (As := [.long w.toInt64]) (rest := []) X PR.blind (PR.pre hPc hK) (c_isSize l dC dI cI cJ cO w.toInt64 ) gX5_isGlue_X5_isSize rfl rfl rfl (by decide +kernel) rfl ⟨Nat.le_of_ble_eq_true rfl, Nat.le_of_ble_eq_true rfl⟩ hl.1 rfl (Nat.le_of_ble_eq_true rfl) dX5_isGlue_2 ⟨by first | decide | omega | (dsimp only; omega), by first | decide | omega | (dsimp only; omega)⟩) (fun r_1 hr_1 => ?_)
  subst hr_1
  refine lv_if_eq (tgt := 45) hx hb dX5_isGlue_5 (by decide) (fun c_5 => ?_) (fun c_5 => ?_)
  · refine lv_iconst (v := 0) hx hb dX5_isGlue_45 (by decide) ?_
    exact my_zretR X rfl (by simp [glu, c_5]) dX5_isGlue_46
  · have c_5 := b01n (szL_01 w.toInt64) c_5
    refine lv_iload_n hx hb dX5_isGlue_8 rfl (lv_at hl 1 rfl) ?_
    refine lv_i2l (v := st.toInt64) hx hb dX5_isGlue_9 rfl ?_
    have hPc := hP.sub (ws' := []) [] rfl
    refine my_rdi (my_runS (n := 1) (As := [.long st.toInt64]) (rest := []) X PR.blind (PR.pre hPc hK) (c_isSize l dC dI cI cJ cO st.toInt64 ) gX5_isGlue_X5_isSize rfl rfl rfl (by decide +kernel) rfl ⟨Nat.le_of_ble_eq_true rfl, Nat.le_of_ble_eq_true rfl⟩ hl.1 rfl (Nat.le_of_ble_eq_true rfl) dX5_isGlue_10 ⟨by first | decide | omega | (dsimp only; omega), by first | decide | omega | (dsimp only; omega)⟩) (fun r_2 hr_2 => ?_)
    subst hr_2
    refine lv_if_eq (tgt := 45) hx hb dX5_isGlue_13 (by decide) (fun c_13 => ?_) (fun c_13 => ?_)
    · refine lv_iconst (v := 0) hx hb dX5_isGlue_45 (by decide) ?_
      exact my_zretR X rfl (by simp [glu, c_5, c_13]) dX5_isGlue_46
    · have c_13 := b01n (szL_01 st.toInt64) c_13
      refine lv_iload_n hx hb dX5_isGlue_16 rfl (lv_at hl 1 rfl) ?_
      refine lv_if_lt (tgt := 45) hx hb dX5_isGlue_17 (by decide) (fun c_17 => ?_) (fun c_17 => ?_)
      · refine lv_iconst (v := 0) hx hb dX5_isGlue_45 (by decide) ?_
        exact my_zretR X rfl (by simp [glu, c_5, c_13, c_17]) dX5_isGlue_46
      · refine lv_iload_n hx hb dX5_isGlue_20 rfl (lv_at hl 2 rfl) ?_
        refine lv_if_lt (tgt := 45) hx hb dX5_isGlue_21 (by decide) (fun c_21 => ?_) (fun c_21 => ?_)
        · refine lv_iconst (v := 0) hx hb dX5_isGlue_45 (by decide) ?_
          exact my_zretR X rfl (by simp [glu, c_5, c_13, c_17, c_21]) dX5_isGlue_46
        · refine lv_iload_n hx hb dX5_isGlue_24 rfl (lv_at hl 2 rfl) ?_
          refine lv_iconst (v := 4) hx hb dX5_isGlue_25 (by decide) ?_
          refine lv_icmp_ge (tgt := 45) hx hb dX5_isGlue_26 (by decide) (fun c_26 => ?_) (fun c_26 => ?_)
          · refine lv_iconst (v := 0) hx hb dX5_isGlue_45 (by decide) ?_
            exact my_zretR X rfl (by simp [glu, c_5, c_13, c_17, c_21, c_26]) dX5_isGlue_46
          · refine lv_iload_n hx hb dX5_isGlue_29 rfl (lv_at hl 3 rfl) ?_
            refine lv_i2l (v := z.toInt64) hx hb dX5_isGlue_30 rfl ?_
            have hPc := hP.sub (ws' := []) [] rfl
            refine my_rdi (my_runS (n := 1) (As := [.long z.toInt64]) (rest := []) X PR.blind (PR.pre hPc hK) (c_isSize l dC dI cI cJ cO z.toInt64 ) gX5_isGlue_X5_isSize rfl rfl rfl (by decide +kernel) rfl ⟨Nat.le_of_ble_eq_true rfl, Nat.le_of_ble_eq_true rfl⟩ hl.1 rfl (Nat.le_of_ble_eq_true rfl) dX5_isGlue_31 ⟨by first | decide | omega | (dsimp only; omega), by first | decide | omega | (dsimp only; omega)⟩) (fun r_3 hr_3 => ?_)
            subst hr_3
            refine lv_if_eq (tgt := 45) hx hb dX5_isGlue_34 (by decide) (fun c_34 => ?_) (fun c_34 => ?_)
            · refine lv_iconst (v := 0) hx hb dX5_isGlue_45 (by decide) ?_
              exact my_zretR X rfl (by simp [glu, c_5, c_13, c_17, c_21, c_26, c_34]) dX5_isGlue_46
            · have c_34 := b01n (szL_01 z.toInt64) c_34
              refine lv_iload_n hx hb dX5_isGlue_37 rfl (lv_at hl 3 rfl) ?_
              refine lv_if_lt (tgt := 45) hx hb dX5_isGlue_38 (by decide) (fun c_38 => ?_) (fun c_38 => ?_)
              · refine lv_iconst (v := 0) hx hb dX5_isGlue_45 (by decide) ?_
                exact my_zretR X rfl (by simp [glu, c_5, c_13, c_17, c_21, c_26, c_34, c_38]) dX5_isGlue_46
              · refine lv_iconst (v := 1) hx hb dX5_isGlue_41 (by decide) ?_
                refine lv_goto (tgt := 46) hx hb dX5_isGlue_42 (by decide) ?_
                exact my_zretR X rfl (by simp [glu, c_5, c_13, c_17, c_21, c_26, c_34, c_38]) dX5_isGlue_46
set_option maxHeartbeats 200000 in
set_option maxRecDepth 100000 in
theorem c_badness (l : Launch) (dC : Nat → ClassId) (dI : Nat → Nat → Nat) (cI cJ cO : ClassId) (t : Int64) (sv : Int64)  : Met l yX5_badness wsX5_badness ({ frames := 0, cells := 0, slots := 0, locals := 0 }) (va_Pc [.long t, .long sv] (PR dC dI cI cJ cO [])) (vp_Sl (fun r : Int64 => r = bdn t sv)) 0 0 (fun _ => False) := by
  refine my_met (ws := wsX5_badness) (cc := cX5_badness) (maxL := 6) (ret := (some .long)) (by decide) rfl (Nat.le_of_ble_eq_true rfl) ?_
  intro p e s m below meth c ls X hl hv
  obtain ⟨hP, hK⟩ := hv
  obtain ⟨hx, hb, hr, hml, hown, hts, hlocks, hnm⟩ := id X
  have hl : lv_has ls 6 [(0, .long t), (2, .long sv)] := hl
  refine lv_lload_n hx hb dX5_badness_0 rfl (lv_at hl 0 rfl) ?_
  refine lv_lconst (v := 0) hx hb dX5_badness_1 (by decide) ?_
  refine my_lif_ne (tgt := 8) hx hb dX5_badness_2 dX5_badness_3 (by decide) (fun c_2 => ?_) (fun c_2 => ?_)
  · refine lv_lload_n hx hb dX5_badness_8 rfl (lv_at hl 1 rfl) ?_
    refine lv_lconst (v := 0) hx hb dX5_badness_9 (by decide) ?_
    refine my_lif_gt (tgt := 18) hx hb dX5_badness_10 dX5_badness_11 (by decide) (fun c_10 => ?_) (fun c_10 => ?_)
    · refine lv_ldc2 (v := (297)) hx hb hown (hts _ (List.mem_of_getElem? (i := 2) rfl)) dX5_badness_18 ?_
      refine lv_lload_n hx hb dX5_badness_21 rfl (lv_at hl 0 rfl) ?_
      refine lv_lmul hx hb dX5_badness_22 ?_
      refine lv_lload_n hx hb dX5_badness_23 rfl (lv_at hl 1 rfl) ?_
      refine lv_ldiv hx hb dX5_badness_24 (lpos_ne c_10) ?_
      refine lv_lstore (lv' := [(4, .long (((297) * t) / sv)), (0, .long t), (2, .long sv)]) hx hb dX5_badness_25 hl (by decide) rfl (fun ls hl => ?_)
      refine lv_lload hx hb dX5_badness_27 (lv_at hl 0 rfl) ?_
      refine lv_ldc2 (v := (1290)) hx hb hown (hts _ (List.mem_of_getElem? (i := 3) rfl)) dX5_badness_29 ?_
      refine my_lif_le (tgt := 42) hx hb dX5_badness_32 dX5_badness_33 (by decide) (fun c_32 => ?_) (fun c_32 => ?_)
      · refine lv_lload hx hb dX5_badness_42 (lv_at hl 0 rfl) ?_
        refine lv_lload hx hb dX5_badness_44 (lv_at hl 0 rfl) ?_
        refine lv_lmul hx hb dX5_badness_46 ?_
        refine lv_lload hx hb dX5_badness_47 (lv_at hl 0 rfl) ?_
        refine lv_lmul hx hb dX5_badness_49 ?_
        refine lv_ldc2 (v := (131072)) hx hb hown (hts _ (List.mem_of_getElem? (i := 4) rfl)) dX5_badness_50 ?_
        refine lv_ladd hx hb dX5_badness_53 ?_
        refine lv_ldc2 (v := (262144)) hx hb hown (hts _ (List.mem_of_getElem? (i := 5) rfl)) dX5_badness_54 ?_
        refine lv_ldiv hx hb dX5_badness_57 (by decide) ?_
        exact my_lretR X (by simp [bdn, bd1, c_2, c_10, c_32]) dX5_badness_58
      · refine lv_ldc2 (v := (10000)) hx hb hown (hts _ (List.mem_of_getElem? (i := 1) rfl)) dX5_badness_36 ?_
        refine lv_goto (tgt := 58) hx hb dX5_badness_39 (by decide) ?_
        exact my_lretR X (by simp [bdn, bd1, c_2, c_10, c_32]) dX5_badness_58
    · refine lv_ldc2 (v := (10000)) hx hb hown (hts _ (List.mem_of_getElem? (i := 1) rfl)) dX5_badness_14 ?_
      exact my_lretR X (by simp [bdn, bd1, c_2, c_10]) dX5_badness_17
  · refine lv_lconst (v := 0) hx hb dX5_badness_6 (by decide) ?_
    exact my_lretR X (by simp [bdn, bd1, c_2]) dX5_badness_7
set_option maxHeartbeats 200000 in
set_option maxRecDepth 100000 in
theorem c_near (l : Launch) (dC : Nat → ClassId) (dI : Nat → Nat → Nat) (cI cJ cO : ClassId) (a : Int64) (b : Int64)  : Met l yX5_near wsX5_near ({ frames := 1, cells := 0, slots := 0, locals := 30 }) (va_Pc [.long a, .long b] (PR dC dI cI cJ cO [])) (vp_Sl (fun r : Int64 => r = nea a b)) 0 0 (fun _ => False) := by
  refine my_met (ws := wsX5_near) (cc := cX5_near) (maxL := 6) (ret := (some .long)) (by decide) rfl (Nat.le_of_ble_eq_true rfl) ?_
  intro p e s m below meth c ls X hl hv
  obtain ⟨hP, hK⟩ := hv
  obtain ⟨hx, hb, hr, hml, hown, hts, hlocks, hnm⟩ := id X
  have hl : lv_has ls 6 [(0, .long a), (2, .long b)] := hl
  refine lv_lload_n hx hb dX5_near_0 rfl (lv_at hl 1 rfl) ?_
  refine lv_lconst (v := 0) hx hb dX5_near_1 (by decide) ?_
  refine my_lif_gt (tgt := 8) hx hb dX5_near_2 dX5_near_3 (by decide) (fun c_2 => ?_) (fun c_2 => ?_)
  · refine lv_ldc2 (v := (2)) hx hb hown (hts _ (List.mem_of_getElem? (i := 1) rfl)) dX5_near_8 ?_
    refine lv_lload_n hx hb dX5_near_11 rfl (lv_at hl 0 rfl) ?_
    refine va_mabs_long hx hb (hml.trans hl.1.symm) hown (hts _ (List.mem_of_getElem? (i := 2) rfl)) (hts _ (List.mem_of_getElem? (i := 3) rfl)) (hts _ (List.mem_of_getElem? (i := 4) rfl)) (hts _ (List.mem_of_getElem? (i := 5) rfl)) (Nat.le_of_ble_eq_true rfl) (Nat.le_of_ble_eq_true rfl) (by first | decide | omega | (dsimp only; omega)) (by first | decide | omega | (dsimp only; omega)) dX5_near_12 ?_
    refine lv_lmul hx hb dX5_near_15 ?_
    refine lv_lload_n hx hb dX5_near_16 rfl (lv_at hl 1 rfl) ?_
    refine lv_ladd hx hb dX5_near_17 ?_
    refine lv_ldc2 (v := (2)) hx hb hown (hts _ (List.mem_of_getElem? (i := 1) rfl)) dX5_near_18 ?_
    refine lv_lload_n hx hb dX5_near_21 rfl (lv_at hl 1 rfl) ?_
    refine lv_lmul hx hb dX5_near_22 ?_
    refine lv_ldiv hx hb dX5_near_23 (l2_ne c_2) ?_
    refine lv_lstore (lv' := [(4, .long ((((2) * (if 0 < a then a else -a)) + b) / ((2) * b))), (0, .long a), (2, .long b)]) hx hb dX5_near_24 hl (by decide) rfl (fun ls hl => ?_)
    refine lv_lload_n hx hb dX5_near_26 rfl (lv_at hl 1 rfl) ?_
    refine lv_lconst (v := 0) hx hb dX5_near_27 (by decide) ?_
    refine my_lif_ge (tgt := 38) hx hb dX5_near_28 dX5_near_29 (by decide) (fun c_28 => ?_) (fun c_28 => ?_)
    · refine lv_lload hx hb dX5_near_38 (lv_at hl 0 rfl) ?_
      exact my_lretR X (by simp [nea, abL, c_2, c_28]) dX5_near_40
    · refine lv_lload hx hb dX5_near_32 (lv_at hl 0 rfl) ?_
      refine lv_lneg hx hb dX5_near_34 ?_
      refine lv_goto (tgt := 40) hx hb dX5_near_35 (by decide) ?_
      exact my_lretR X (by simp [nea, abL, c_2, c_28]) dX5_near_40
  · refine lv_lconst (v := 0) hx hb dX5_near_6 (by decide) ?_
    exact my_lretR X (by simp [nea, abL, c_2]) dX5_near_7
end
section
theorem in_X0_size_X0 : ∀ w ∈ wsX00, w ∈ wsX0_size := fun _ h => List.mem_cons_of_mem _ (List.mem_append_right _ h)
set_option maxHeartbeats 200000 in
set_option maxRecDepth 100000 in
theorem c_size (l : Launch) (dC : Nat → ClassId) (dI : Nat → Nat → Nat) (cI cJ cO : ClassId) (o : Nat) (ar : Nat) (cap : Nat) (f : Nat → Int32) (sz : Nat)  : Met l yX0_size wsX0_size ({ frames := 0, cells := 0, slots := 0, locals := 0 }) (va_Pc [.ref o] (PR dC dI cI cJ cO [(o, .inr (0, [.ref ar, .int (nI sz)])), (ar, .inl (cI, (cap * 8), .inl f))])) (vp_Si (fun r : Int32 => r = nI sz)) 0 0 (fun _ => False) := by
  refine my_met (ws := wsX0_size) (cc := cX0_size) (maxL := 1) (ret := (some .int)) (by decide) rfl (Nat.le_of_ble_eq_true rfl) ?_
  intro p e s m below meth c ls X hl hv
  obtain ⟨hP, hK⟩ := hv
  obtain ⟨hx, hb, hr, hml, hown, hts, hlocks, hnm⟩ := id X
  have hl : lv_has ls 1 [(0, .ref o)] := hl
  refine lv_aload_n hx hb dX0_size_0 rfl (lv_at hl 0 rfl) ?_
  refine my_get X hK in_X0_size_X0 hP 0 rfl rfl 1 (by decide) (List.mem_of_getElem? (i := 1) rfl) rfl dX0_size_1 ?_
  exact my_iretR X (rfl) dX0_size_4
theorem in_X0_at_X0 : ∀ w ∈ wsX00, w ∈ wsX0_at := fun _ h => List.mem_cons_of_mem _ (List.mem_append_right _ h)
set_option maxHeartbeats 200000 in
set_option maxRecDepth 100000 in
theorem c_at (l : Launch) (dC : Nat → ClassId) (dI : Nat → Nat → Nat) (cI cJ cO : ClassId) (o : Nat) (ar : Nat) (cap : Nat) (f : Nat → Int32) (sz : Nat) (k : Nat) (j : Nat) (hk : k < sz) (hj : j < 8) (hsz : sz ≤ cap) (hcap : cap ≤ 4001) : Met l yX0_at wsX0_at ({ frames := 0, cells := 0, slots := 0, locals := 0 }) (va_Pc [.ref o, .int (nI k), .int (nI j)] (PR dC dI cI cJ cO [(o, .inr (0, [.ref ar, .int (nI sz)])), (ar, .inl (cI, (cap * 8), .inl f))])) (vp_Si (fun r : Int32 => r = f (k * 8 + j))) 0 0 (fun _ => False) := by
  refine my_met (ws := wsX0_at) (cc := cX0_at) (maxL := 4) (ret := (some .int)) (by decide) rfl (Nat.le_of_ble_eq_true rfl) ?_
  intro p e s m below meth c ls X hl hv
  obtain ⟨hP, hK⟩ := hv
  obtain ⟨hx, hb, hr, hml, hown, hts, hlocks, hnm⟩ := id X
  have hl : lv_has ls 4 [(0, .ref o), (1, .int (nI k)), (2, .int (nI j))] := hl
  refine lv_iload_n hx hb dX0_at_0 rfl (lv_at hl 1 rfl) ?_
  refine lv_bipush (v := 8) hx hb dX0_at_1 (by decide) ?_
  refine lv_imul hx hb dX0_at_3 ?_
  refine my_topi (pk_mul k 8) ?_
  refine lv_iload_n hx hb dX0_at_4 rfl (lv_at hl 2 rfl) ?_
  refine lv_iadd hx hb dX0_at_5 ?_
  refine my_topi (nI_add (k * 8) j) ?_
  refine lv_istore_n (lv' := [(3, .int (nI (k * 8 + j))), (0, .ref o), (1, .int (nI k)), (2, .int (nI j))]) hx hb dX0_at_6 rfl hl (by decide) rfl (fun ls hl => ?_)
  refine lv_iload_n hx hb dX0_at_7 rfl (lv_at hl 2 rfl) ?_
  refine lv_if_lt (tgt := 41) hx hb dX0_at_8 (by decide) (fun c_8 => ?_) (fun c_8 => ?_)
  · have c_8 := nc_lt (a := k) (b := 0) c_8 (by omega) (by omega)
    exact False.elim (by omega)
  · have c_8 := nc_nlt (a := k) (b := 0) c_8 (by omega) (by omega)
    refine lv_iload_n hx hb dX0_at_11 rfl (lv_at hl 2 rfl) ?_
    refine lv_aload_n hx hb dX0_at_12 rfl (lv_at hl 1 rfl) ?_
    refine my_get X hK in_X0_at_X0 hP 0 rfl rfl 1 (by decide) (List.mem_of_getElem? (i := 1) rfl) rfl dX0_at_13 ?_
    refine lv_icmp_ge (tgt := 41) hx hb dX0_at_16 (by decide) (fun c_16 => ?_) (fun c_16 => ?_)
    · have c_16 := nc_le (a := sz) (b := k) c_16 (by omega) (by omega)
      exact False.elim (by omega)
    · have c_16 := nc_nle (a := sz) (b := k) c_16 (by omega) (by omega)
      refine lv_iload_n hx hb dX0_at_19 rfl (lv_at hl 0 rfl) ?_
      refine lv_if_lt (tgt := 41) hx hb dX0_at_20 (by decide) (fun c_20 => ?_) (fun c_20 => ?_)
      · have c_20 := nc_lt (a := k * 8 + j) (b := 0) c_20 (by omega) (by omega)
        exact False.elim (by omega)
      · have c_20 := nc_nlt (a := k * 8 + j) (b := 0) c_20 (by omega) (by omega)
        refine lv_iload_n hx hb dX0_at_23 rfl (lv_at hl 0 rfl) ?_
        refine lv_aload_n hx hb dX0_at_24 rfl (lv_at hl 1 rfl) ?_
        refine my_get X hK in_X0_at_X0 hP 0 rfl rfl 0 (by decide) (List.mem_of_getElem? (i := 2) rfl) rfl dX0_at_25 ?_
        refine va_alen (v := nI (cap * 8)) hx hb hK.1 hP 1 0 rfl rfl rfl dX0_at_28 ?_
        refine lv_icmp_ge (tgt := 41) hx hb dX0_at_29 (by decide) (fun c_29 => ?_) (fun c_29 => ?_)
        · have c_29 := nc_le (a := cap * 8) (b := k * 8 + j) c_29 (by omega) (by omega)
          exact False.elim (by omega)
        · have c_29 := nc_nle (a := cap * 8) (b := k * 8 + j) c_29 (by omega) (by omega)
          refine lv_aload_n hx hb dX0_at_32 rfl (lv_at hl 1 rfl) ?_
          refine my_get X hK in_X0_at_X0 hP 0 rfl rfl 0 (by decide) (List.mem_of_getElem? (i := 2) rfl) rfl dX0_at_33 ?_
          refine lv_iload_n hx hb dX0_at_36 rfl (lv_at hl 0 rfl) ?_
          refine my_iald (k := (k * 8 + j)) hx hb hK hP 1 rfl (rfl) (by omega) (by omega) dX0_at_37 ?_
          refine lv_goto (tgt := 42) hx hb dX0_at_38 (by decide) ?_
          exact my_iretR X (rfl) dX0_at_42
theorem in_X0_put_X0 : ∀ w ∈ wsX00, w ∈ wsX0_put := fun _ h => List.mem_cons_of_mem _ (List.mem_append_right _ h)
set_option maxHeartbeats 200000 in
set_option maxRecDepth 100000 in
theorem c_put (l : Launch) (dC : Nat → ClassId) (dI : Nat → Nat → Nat) (cI cJ cO : ClassId) (hz : Nat) (o : Nat) (ar : Nat) (cap : Nat) (f : Nat → Int32) (sz : Nat) (k : Nat) (j : Nat) (v : Int32) (hk : k < sz) (hj : j < 8) (hsz : sz ≤ cap) (hcap : cap ≤ 4001) : Met l yX0_put wsX0_put ({ frames := 0, cells := 0, slots := 0, locals := 0 }) (va_Pc [.ref o, .int (nI k), .int (nI j), .int v] (PW dC dI cI cJ cO [(o, .inr (0, [.ref ar, .int (nI sz)])), (ar, .inl (cI, (cap * 8), .inl f))] hz)) (va_Qv (fun _ : Unit => True) (fun (_ : Unit) t9 => BW dC dI (va_A [(o, .inr (0, [.ref ar, .int (nI sz)])), (ar, .inl (cI, (cap * 8), .inl f))] hz) [(o, .inr (0, [.ref ar, .int (nI sz)])), (ar, .inl (cI, (cap * 8), .inl (upd f (k * 8 + j) v)))] t9) (va_A [(o, .inr (0, [.ref ar, .int (nI sz)])), (ar, .inl (cI, (cap * 8), .inl f))] hz)) 0 0 (va_A [(o, .inr (0, [.ref ar, .int (nI sz)])), (ar, .inl (cI, (cap * 8), .inl f))] hz) := by
  refine my_metW (ws := wsX0_put) (cc := cX0_put) (maxL := 5) (ret := none) (Qc := fun A => va_Qv (fun _ : Unit => True) (fun (_ : Unit) t9 => BW dC dI A [(o, .inr (0, [.ref ar, .int (nI sz)])), (ar, .inl (cI, (cap * 8), .inl (upd f (k * 8 + j) v)))] t9) A) (by decide) rfl (Nat.le_of_ble_eq_true rfl) ?_
  intro p e s m below meth c ls A X hl hK hA hP hD hS
  obtain ⟨hx, hb, hr, hml, hown, hts, hlocks, hnm⟩ := id X
  have hl : lv_has ls 5 [(0, .ref o), (1, .int (nI k)), (2, .int (nI j)), (3, .int v)] := hl
  refine lv_iload_n hx hb dX0_put_0 rfl (lv_at hl 1 rfl) ?_
  refine lv_bipush (v := 8) hx hb dX0_put_1 (by decide) ?_
  refine lv_imul hx hb dX0_put_3 ?_
  refine my_topi (pk_mul k 8) ?_
  refine lv_iload_n hx hb dX0_put_4 rfl (lv_at hl 2 rfl) ?_
  refine lv_iadd hx hb dX0_put_5 ?_
  refine my_topi (nI_add (k * 8) j) ?_
  refine lv_istore (lv' := [(4, .int (nI (k * 8 + j))), (0, .ref o), (1, .int (nI k)), (2, .int (nI j)), (3, .int v)]) hx hb dX0_put_6 hl (by decide) rfl (fun ls hl => ?_)
  refine lv_iload_n hx hb dX0_put_8 rfl (lv_at hl 2 rfl) ?_
  refine lv_if_lt (tgt := 43) hx hb dX0_put_9 (by decide) (fun c_9 => ?_) (fun c_9 => ?_)
  · have c_9 := nc_lt (a := k) (b := 0) c_9 (by omega) (by omega)
    exact False.elim (by omega)
  · have c_9 := nc_nlt (a := k) (b := 0) c_9 (by omega) (by omega)
    refine lv_iload_n hx hb dX0_put_12 rfl (lv_at hl 2 rfl) ?_
    refine lv_aload_n hx hb dX0_put_13 rfl (lv_at hl 1 rfl) ?_
    refine my_get X hK in_X0_put_X0 hP 0 rfl rfl 1 (by decide) (List.mem_of_getElem? (i := 1) rfl) rfl dX0_put_14 ?_
    refine lv_icmp_ge (tgt := 43) hx hb dX0_put_17 (by decide) (fun c_17 => ?_) (fun c_17 => ?_)
    · have c_17 := nc_le (a := sz) (b := k) c_17 (by omega) (by omega)
      exact False.elim (by omega)
    · have c_17 := nc_nle (a := sz) (b := k) c_17 (by omega) (by omega)
      refine lv_iload hx hb dX0_put_20 (lv_at hl 0 rfl) ?_
      refine lv_if_lt (tgt := 43) hx hb dX0_put_22 (by decide) (fun c_22 => ?_) (fun c_22 => ?_)
      · have c_22 := nc_lt (a := k * 8 + j) (b := 0) c_22 (by omega) (by omega)
        exact False.elim (by omega)
      · have c_22 := nc_nlt (a := k * 8 + j) (b := 0) c_22 (by omega) (by omega)
        refine lv_iload hx hb dX0_put_25 (lv_at hl 0 rfl) ?_
        refine lv_aload_n hx hb dX0_put_27 rfl (lv_at hl 1 rfl) ?_
        refine my_get X hK in_X0_put_X0 hP 0 rfl rfl 0 (by decide) (List.mem_of_getElem? (i := 2) rfl) rfl dX0_put_28 ?_
        refine va_alen (v := nI (cap * 8)) hx hb hK.1 hP 1 0 rfl rfl rfl dX0_put_31 ?_
        refine lv_icmp_ge (tgt := 43) hx hb dX0_put_32 (by decide) (fun c_32 => ?_) (fun c_32 => ?_)
        · have c_32 := nc_le (a := cap * 8) (b := k * 8 + j) c_32 (by omega) (by omega)
          exact False.elim (by omega)
        · have c_32 := nc_nle (a := cap * 8) (b := k * 8 + j) c_32 (by omega) (by omega)
          refine lv_aload_n hx hb dX0_put_35 rfl (lv_at hl 1 rfl) ?_
          refine my_get X hK in_X0_put_X0 hP 0 rfl rfl 0 (by decide) (List.mem_of_getElem? (i := 2) rfl) rfl dX0_put_36 ?_
          refine lv_iload hx hb dX0_put_39 (lv_at hl 0 rfl) ?_
          refine lv_iload_n hx hb dX0_put_41 rfl (lv_at hl 4 rfl) ?_
          refine my_iast (k := (k * 8 + j)) hx hb hK hP hD hS 1 rfl (rfl) (by omega) (by omega) dX0_put_42 (fun H locs hP hD hS => ?_)
          have hP : va_P (dC, dI) vwCl ([(o, .inr (0, [.ref ar, .int (nI sz)])), (ar, .inl (cI, (cap * 8), .inl (upd f (k * 8 + j) v)))]) H := hP
          have hD : va_D A ([(o, .inr (0, [.ref ar, .int (nI sz)])), (ar, .inl (cI, (cap * 8), .inl (upd f (k * 8 + j) v)))]) := hD
          exact my_vret (WSf := (fun _ : Unit => [(o, .inr (0, [.ref ar, .int (nI sz)])), (ar, .inl (cI, (cap * 8), .inl (upd f (k * 8 + j) v)))])) () X (trivial) (hP) (hD) hS (by first | decide | omega | (dsimp only; omega)) (by first | decide | omega | (dsimp only; omega)) dX0_put_43
set_option maxHeartbeats 200000 in
set_option maxRecDepth 100000 in
theorem c_copyOf (l : Launch) (dC : Nat → ClassId) (dI : Nat → Nat → Nat) (cI cJ cO : ClassId) (hz : Nat) (ar : Nat) (n : Nat) (f : Nat → Int32) (t : Nat) (h1 : n < t) (h2 : t ≤ 40000) : Met l yJ7_copyOf_59c91 wsJ7_copyOf_59c91 ({ frames := 1, cells := 1, slots := t, locals := 30 }) (va_Pc [.ref ar, .int (nI t)] (PW dC dI cI cJ cO [(ar, .inl (cI, n, .inl f))] hz)) (va_Qr (fun _ : Unit => True) (fun (_ : Unit) (ra : Nat) t9 => BW dC dI (va_A [(ar, .inl (cI, n, .inl f))] hz) [(ar, .inl (cI, n, .inl f)), (ra, .inl (cI, t, .inl (va_cpy f (fun _ => 0) 0 0 (min n t))))] t9) (va_A [(ar, .inl (cI, n, .inl f))] hz)) 1 t (va_A [(ar, .inl (cI, n, .inl f))] hz) := by
  refine my_metW (ws := wsJ7_copyOf_59c91) (cc := cJ7_copyOf_59c91) (maxL := 3) (ret := (some (.array .int))) (Qc := fun A => va_Qr (fun _ : Unit => True) (fun (_ : Unit) (ra : Nat) t9 => BW dC dI A [(ar, .inl (cI, n, .inl f)), (ra, .inl (cI, t, .inl (va_cpy f (fun _ => 0) 0 0 (min n t))))] t9) A) (by decide) rfl (Nat.le_of_ble_eq_true rfl) ?_
  intro p e s m below meth c ls A X hl hK hA hP hD hS
  obtain ⟨hx, hb, hr, hml, hown, hts, hlocks, hnm⟩ := id X
  have hl : lv_has ls 3 [(0, .ref ar), (1, .int (nI t))] := hl
  refine lv_iload_n hx hb dJ7_copyOf_59c91_0 rfl (lv_at hl 1 rfl) ?_
  refine lv_aload_n hx hb dJ7_copyOf_59c91_1 rfl (lv_at hl 0 rfl) ?_
  refine va_alen (v := nI n) hx hb hK.1 hP 0 0 rfl rfl rfl dJ7_copyOf_59c91_2 ?_
  refine lv_icmp_ne (tgt := 14) hx hb dJ7_copyOf_59c91_3 (by decide) (fun c_3 => ?_) (fun c_3 => ?_)
  · have c_3 := nc_ne (a := t) (b := n) c_3 (by omega) (by omega)
    refine lv_iload_n hx hb dJ7_copyOf_59c91_14 rfl (lv_at hl 1 rfl) ?_
    refine my_newi (N := t) X hK (List.mem_of_getElem? (i := 7) rfl) hP hD hS hA (rfl) (by omega) (by omega) (by first | decide | omega | (dsimp only; omega)) (by first | decide | omega | (dsimp only; omega)) dJ7_copyOf_59c91_15 (fun q_1 H hP hD hS => ?_)
    have hP : va_P (dC, dI) vwCl ([(ar, .inl (cI, n, .inl f)), (q_1, .inl (cI, t, .inl (fun _ => 0)))]) H := hP
    have hD : va_D A ([(ar, .inl (cI, n, .inl f)), (q_1, .inl (cI, t, .inl (fun _ => 0)))]) := hD
    refine lv_astore_n (lv' := [(2, .ref q_1), (0, .ref ar), (1, .int (nI t))]) hx hb dJ7_copyOf_59c91_17 rfl hl (by decide) rfl (fun ls hl => ?_)
    refine lv_aload_n hx hb dJ7_copyOf_59c91_18 rfl (lv_at hl 1 rfl) ?_
    refine lv_iconst (v := 0) hx hb dJ7_copyOf_59c91_19 (by decide) ?_
    refine lv_aload_n hx hb dJ7_copyOf_59c91_20 rfl (lv_at hl 0 rfl) ?_
    refine lv_iconst (v := 0) hx hb dJ7_copyOf_59c91_21 (by decide) ?_
    refine lv_aload_n hx hb dJ7_copyOf_59c91_22 rfl (lv_at hl 1 rfl) ?_
    refine va_alen (v := nI n) hx hb hK.1 hP 0 0 rfl rfl rfl dJ7_copyOf_59c91_23 ?_
    refine lv_iload_n hx hb dJ7_copyOf_59c91_24 rfl (lv_at hl 2 rfl) ?_
    refine va_mmin hx hb (hml.trans hl.1.symm) hown (hts _ (List.mem_of_getElem? (i := 8) rfl)) (hts _ (List.mem_of_getElem? (i := 9) rfl)) (hts _ (List.mem_of_getElem? (i := 10) rfl)) (hts _ (List.mem_of_getElem? (i := 11) rfl)) (Nat.le_of_ble_eq_true rfl) (Nat.le_of_ble_eq_true rfl) (by first | decide | omega | (dsimp only; omega)) (by first | decide | omega | (dsimp only; omega)) dJ7_copyOf_59c91_25 ?_
    refine my_topi (nI_min n t (by omega) (by omega)) ?_
    refine my_copyi (sp := 0) (dp := 0) (n := (min n t)) X hK (List.mem_of_getElem? (i := 12) rfl) (List.mem_of_getElem? (i := 13) rfl) (List.mem_of_getElem? (i := 14) rfl) (List.mem_of_getElem? (i := 15) rfl) hP hD hS 0 1 rfl rfl rfl rfl rfl (by omega) (by omega) (by omega) (by omega) (Nat.le_of_ble_eq_true rfl) (Nat.le_of_ble_eq_true rfl) hl.1 dJ7_copyOf_59c91_28 (fun H locs hP hD hS => ?_)
    have hP : va_P (dC, dI) vwCl ([(ar, .inl (cI, n, .inl f)), (q_1, .inl (cI, t, .inl (va_cpy f (fun _ => 0) 0 0 (min n t))))]) H := hP
    have hD : va_D A ([(ar, .inl (cI, n, .inl f)), (q_1, .inl (cI, t, .inl (va_cpy f (fun _ => 0) 0 0 (min n t))))]) := hD
    refine lv_aload_n hx hb dJ7_copyOf_59c91_31 rfl (lv_at hl 0 rfl) ?_
    exact my_aret (WSf := fun ra => [(ar, .inl (cI, n, .inl f)), (ra, .inl (cI, t, .inl (va_cpy f (fun _ => 0) 0 0 (min n t))))]) X (hP.sub [0, 1] rfl) (hD.sub [0, 1] (by decide) rfl) hS (by first | decide | omega | (dsimp only; omega)) (by first | decide | omega | (dsimp only; omega)) dJ7_copyOf_59c91_32
  · have c_3 := nc_eq (a := t) (b := n) c_3 (by omega) (by omega)
    exact False.elim (by omega)
theorem in_X0_makeRoom_X0 : ∀ w ∈ wsX00, w ∈ wsX0_makeRoom := fun _ h => List.mem_cons_of_mem _ (List.mem_append_right _ h)
set_option maxHeartbeats 200000 in
set_option maxRecDepth 100000 in
theorem c_makeRoom (l : Launch) (dC : Nat → ClassId) (dI : Nat → Nat → Nat) (cI cJ cO : ClassId) (hz : Nat) (o : Nat) (ar : Nat) (cap : Nat) (f : Nat → Int32) (sz : Nat) (t : Nat) (ht : t ≤ 4001) (hcap : cap ≤ 4001) : Met l yX0_makeRoom wsX0_makeRoom ({ frames := 2, cells := gmc t cap, slots := gms t cap, locals := 60 }) (va_Pc [.ref o, .int (nI t)] (PW dC dI cI cJ cO [(o, .inr (0, [.ref ar, .int (nI sz)])), (ar, .inl (cI, (cap * 8), .inl f))] hz)) (va_Qv (fun u : Nat × Nat × (Nat → Int32) => u.2.1 = gcap t cap ∧ ∀ j, j < cap * 8 → u.2.2 j = f j) (fun (u : Nat × Nat × (Nat → Int32)) t9 => BW dC dI (va_A [(o, .inr (0, [.ref ar, .int (nI sz)])), (ar, .inl (cI, (cap * 8), .inl f))] hz) [(o, .inr (0, [.ref u.1, .int (nI sz)])), (u.1, .inl (cI, (u.2.1 * 8), .inl u.2.2))] t9) (va_A [(o, .inr (0, [.ref ar, .int (nI sz)])), (ar, .inl (cI, (cap * 8), .inl f))] hz)) (gmc t cap) (gms t cap) (va_A [(o, .inr (0, [.ref ar, .int (nI sz)])), (ar, .inl (cI, (cap * 8), .inl f))] hz) := by
  refine my_metW (ws := wsX0_makeRoom) (cc := cX0_makeRoom) (maxL := 3) (ret := none) (Qc := fun A => va_Qv (fun u : Nat × Nat × (Nat → Int32) => u.2.1 = gcap t cap ∧ ∀ j, j < cap * 8 → u.2.2 j = f j) (fun (u : Nat × Nat × (Nat → Int32)) t9 => BW dC dI A [(o, .inr (0, [.ref u.1, .int (nI sz)])), (u.1, .inl (cI, (u.2.1 * 8), .inl u.2.2))] t9) A) (by decide) rfl (Nat.le_of_ble_eq_true rfl) ?_
  intro p e s m below meth c ls A X hl hK hA hP hD hS
  obtain ⟨hx, hb, hr, hml, hown, hts, hlocks, hnm⟩ := id X
  have hl : lv_has ls 3 [(0, .ref o), (1, .int (nI t))] := hl
  refine lv_iload_n hx hb dX0_makeRoom_0 rfl (lv_at hl 1 rfl) ?_
  refine lv_bipush (v := 8) hx hb dX0_makeRoom_1 (by decide) ?_
  refine lv_imul hx hb dX0_makeRoom_3 ?_
  refine my_topi (pk_mul t 8) ?_
  refine lv_aload_n hx hb dX0_makeRoom_4 rfl (lv_at hl 0 rfl) ?_
  refine my_get X hK in_X0_makeRoom_X0 hP 0 rfl rfl 0 (by decide) (List.mem_of_getElem? (i := 1) rfl) rfl dX0_makeRoom_5 ?_
  refine va_alen (v := nI (cap * 8)) hx hb hK.1 hP 1 0 rfl rfl rfl dX0_makeRoom_8 ?_
  refine lv_icmp_le (tgt := 19) hx hb dX0_makeRoom_9 (by decide) (fun c_9 => ?_) (fun c_9 => ?_)
  · have c_9 := nc_le (a := t * 8) (b := cap * 8) c_9 (by omega) (by omega)
    exact my_vret (WSf := (fun u : Nat × Nat × (Nat → Int32) => [(o, .inr (0, [.ref u.1, .int (nI sz)])), (u.1, .inl (cI, (u.2.1 * 8), .inl u.2.2))])) (ar, cap, f) X (⟨by unfold gcap; rw [if_pos (by omega)], fun _ _ => rfl⟩) (hP) (hD) hS (by first | exact Nat.zero_le _ | (rw [hg]; decide)) (by first | exact Nat.zero_le _ | (rw [hgs]; omega)) dX0_makeRoom_19
  · have c_9 := nc_nle (a := t * 8) (b := cap * 8) c_9 (by omega) (by omega)
    refine lv_iload_n hx hb dX0_makeRoom_12 rfl (lv_at hl 1 rfl) ?_
    refine lv_sipush (v := 4001) hx hb dX0_makeRoom_13 (by decide) ?_
    refine lv_icmp_le (tgt := 20) hx hb dX0_makeRoom_16 (by decide) (fun c_16 => ?_) (fun c_16 => ?_)
    · have c_16 := nc_le (a := t) (b := 4001) c_16 (by omega) (by omega)
      have hg : gmc t cap = 1 := if_neg (by omega)
      have hgs : gms t cap = 8 * min 4001 (max t (2 * cap)) := if_neg (by omega)
      refine lv_sipush (v := 4001) hx hb dX0_makeRoom_20 (by decide) ?_
      refine lv_iload_n hx hb dX0_makeRoom_23 rfl (lv_at hl 1 rfl) ?_
      refine lv_iconst (v := 2) hx hb dX0_makeRoom_24 (by decide) ?_
      refine lv_aload_n hx hb dX0_makeRoom_25 rfl (lv_at hl 0 rfl) ?_
      refine my_get X hK in_X0_makeRoom_X0 hP 0 rfl rfl 0 (by decide) (List.mem_of_getElem? (i := 1) rfl) rfl dX0_makeRoom_26 ?_
      refine va_alen (v := nI (cap * 8)) hx hb hK.1 hP 1 0 rfl rfl rfl dX0_makeRoom_29 ?_
      refine lv_bipush (v := 8) hx hb dX0_makeRoom_30 (by decide) ?_
      refine lv_idiv hx hb dX0_makeRoom_32 (by decide) ?_
      refine my_topi (pk_div (a := cap * 8) (d := 8) (by omega) (by decide) (by decide)) ?_
      refine lv_imul hx hb dX0_makeRoom_33 ?_
      refine my_topi (pk_mul 2 ((cap * 8) / 8)) ?_
      refine va_mmax hx hb (hml.trans hl.1.symm) hown (hts _ (List.mem_of_getElem? (i := 2) rfl)) (hts _ (List.mem_of_getElem? (i := 3) rfl)) (hts _ (List.mem_of_getElem? (i := 4) rfl)) (hts _ (List.mem_of_getElem? (i := 5) rfl)) (Nat.le_of_ble_eq_true rfl) (Nat.le_of_ble_eq_true rfl) (by first | decide | omega | (dsimp only; omega)) (by first | decide | omega | (dsimp only; omega)) dX0_makeRoom_34 ?_
      refine my_topi (nI_max t (2 * ((cap * 8) / 8)) (by omega) (by omega)) ?_
      refine va_mmin hx hb (hml.trans hl.1.symm) hown (hts _ (List.mem_of_getElem? (i := 6) rfl)) (hts _ (List.mem_of_getElem? (i := 7) rfl)) (hts _ (List.mem_of_getElem? (i := 4) rfl)) (hts _ (List.mem_of_getElem? (i := 8) rfl)) (Nat.le_of_ble_eq_true rfl) (Nat.le_of_ble_eq_true rfl) (by first | decide | omega | (dsimp only; omega)) (by first | decide | omega | (dsimp only; omega)) dX0_makeRoom_37 ?_
      refine my_topi (nI_min 4001 (max t (2 * ((cap * 8) / 8))) (by omega) (by omega)) ?_
      refine lv_istore_n (lv' := [(2, .int (nI (min 4001 (max t (2 * ((cap * 8) / 8)))))), (0, .ref o), (1, .int (nI t))]) hx hb dX0_makeRoom_40 rfl hl (by decide) rfl (fun ls hl => ?_)
      refine lv_aload_n hx hb dX0_makeRoom_41 rfl (lv_at hl 1 rfl) ?_
      refine lv_aload_n hx hb dX0_makeRoom_42 rfl (lv_at hl 1 rfl) ?_
      refine my_get X hK in_X0_makeRoom_X0 hP 0 rfl rfl 0 (by decide) (List.mem_of_getElem? (i := 1) rfl) rfl dX0_makeRoom_43 ?_
      refine lv_iload_n hx hb dX0_makeRoom_46 rfl (lv_at hl 0 rfl) ?_
      refine lv_bipush (v := 8) hx hb dX0_makeRoom_47 (by decide) ?_
      refine lv_imul hx hb dX0_makeRoom_49 ?_
      refine my_topi (pk_mul (min 4001 (max t (2 * ((cap * 8) / 8)))) 8) ?_
      have hPc := hP.sub (ws' := [(ar, .inl (cI, (cap * 8), .inl f))]) [1] rfl
      have hDc := hD.sub (ws' := [(ar, .inl (cI, (cap * 8), .inl f))]) [1] (by decide) rfl
      refine my_callr (ws := [(o, .inr (0, [.ref ar, .int (nI sz)])), (ar, .inl (cI, (cap * 8), .inl f))]) (F := []) (wr := [(o, .inr (0, [.ref ar, .int (nI sz)]))]) (my_runS (n := 2) (As := [.ref ar, .int (nI ((min 4001 (max t (2 * ((cap * 8) / 8)))) * 8))]) (rest := [.ref o]) X PW.blind (PW.pre hPc hDc hK) (c_copyOf l dC dI cI cJ cO _ ar (cap * 8) f ((min 4001 (max t (2 * ((cap * 8) / 8)))) * 8) (by omega) (by omega)) gX0_makeRoom_J7_copyOf_59c91 rfl rfl rfl (by decide +kernel) rfl ⟨Nat.le_of_ble_eq_true rfl, Nat.le_of_ble_eq_true rfl⟩ hl.1 rfl (Nat.le_of_ble_eq_true rfl) dX0_makeRoom_50 ⟨by show 0 + 1 ≤ gmc t cap; rw [hg]; decide, by show 0 + _ ≤ gms t cap; rw [hgs]; omega⟩) hS hP hD hA [1] [0] rfl rfl (by decide) (by decide) (fun q_3 H locs hP hD hS => ?_)
      have hP : va_P (dC, dI) vwCl [(o, .inr (0, [.ref ar, .int (nI sz)])), (ar, .inl (cI, (cap * 8), .inl f)), (q_3, .inl (cI, ((min 4001 (max t (2 * ((cap * 8) / 8)))) * 8), .inl (va_cpy f (fun _ => 0) 0 0 (min (cap * 8) ((min 4001 (max t (2 * ((cap * 8) / 8)))) * 8)))))] H := hP.sub [0, 1, 2] rfl
      have hD : va_D A [(o, .inr (0, [.ref ar, .int (nI sz)])), (ar, .inl (cI, (cap * 8), .inl f)), (q_3, .inl (cI, ((min 4001 (max t (2 * ((cap * 8) / 8)))) * 8), .inl (va_cpy f (fun _ => 0) 0 0 (min (cap * 8) ((min 4001 (max t (2 * ((cap * 8) / 8)))) * 8)))))] := hD.sub [0, 1, 2] (by decide) rfl
      refine my_put X hK in_X0_makeRoom_X0 tyX0 tyX0_ok nmX0 hP hD hS 0 rfl rfl 0 (by decide) (List.mem_of_getElem? (i := 1) rfl) rfl rfl rfl (Nat.le_of_ble_eq_true rfl) dX0_makeRoom_53 (fun H locs hP hD hS => ?_)
      have hP : va_P (dC, dI) vwCl ([(o, .inr (0, [.ref q_3, .int (nI sz)])), (ar, .inl (cI, (cap * 8), .inl f)), (q_3, .inl (cI, ((min 4001 (max t (2 * ((cap * 8) / 8)))) * 8), .inl (va_cpy f (fun _ => 0) 0 0 (min (cap * 8) ((min 4001 (max t (2 * ((cap * 8) / 8)))) * 8)))))]) H := hP
      have hD : va_D A ([(o, .inr (0, [.ref q_3, .int (nI sz)])), (ar, .inl (cI, (cap * 8), .inl f)), (q_3, .inl (cI, ((min 4001 (max t (2 * ((cap * 8) / 8)))) * 8), .inl (va_cpy f (fun _ => 0) 0 0 (min (cap * 8) ((min 4001 (max t (2 * ((cap * 8) / 8)))) * 8)))))]) := hD
      exact my_vret (WSf := (fun u : Nat × Nat × (Nat → Int32) => [(o, .inr (0, [.ref u.1, .int (nI sz)])), (u.1, .inl (cI, (u.2.1 * 8), .inl u.2.2))])) (q_3, min 4001 (max t (2 * (cap * 8 / 8))), va_cpy f (fun _ => 0) 0 0 (min (cap * 8) ((min 4001 (max t (2 * ((cap * 8) / 8)))) * 8))) X (⟨by unfold gcap; rw [if_neg (by omega)]; simp, fun j hj => by show va_cpy f (fun _ => 0) 0 0 (min (cap * 8) (min 4001 (max t (2 * (cap * 8 / 8))) * 8)) j = f j; exact sb_cpy0 (by omega)⟩) (hP.sub [0, 2] rfl) (hD.sub [0, 2] (by decide) rfl) hS (by first | exact Nat.zero_le _ | (rw [hg]; decide)) (by first | exact Nat.zero_le _ | (rw [hgs]; omega)) dX0_makeRoom_56
    · have c_16 := nc_nle (a := t) (b := 4001) c_16 (by omega) (by omega)
      exact False.elim (by omega)
theorem in_X0_append_X0 : ∀ w ∈ wsX00, w ∈ wsX0_append := fun _ h => List.mem_cons_of_mem _ (List.mem_append_right _ h)
set_option maxHeartbeats 200000 in
set_option maxRecDepth 100000 in
theorem c_append (l : Launch) (dC : Nat → ClassId) (dI : Nat → Nat → Nat) (cI cJ cO : ClassId) (hz : Nat) (o : Nat) (ar : Nat) (cap : Nat) (f : Nat → Int32) (sz : Nat) (h1 : sz + 1 ≤ 4001) (hsz : sz ≤ cap) (hcap : cap ≤ 4001) : Met l yX0_append wsX0_append ({ frames := 3, cells := gmc (sz + 1) cap, slots := gms (sz + 1) cap, locals := 90 }) (va_Pc [.ref o] (PW dC dI cI cJ cO [(o, .inr (0, [.ref ar, .int (nI sz)])), (ar, .inl (cI, (cap * 8), .inl f))] hz)) (va_Qi (fun r : Int32 => fun u : Nat × Nat × (Nat → Int32) => r = nI sz ∧ u.2.1 = gcap (sz + 1) cap ∧ ∀ j, j < cap * 8 → u.2.2 j = f j) (fun (u : Nat × Nat × (Nat → Int32)) t9 => BW dC dI (va_A [(o, .inr (0, [.ref ar, .int (nI sz)])), (ar, .inl (cI, (cap * 8), .inl f))] hz) [(o, .inr (0, [.ref u.1, .int (nI (sz + 1))])), (u.1, .inl (cI, (u.2.1 * 8), .inl u.2.2))] t9) (va_A [(o, .inr (0, [.ref ar, .int (nI sz)])), (ar, .inl (cI, (cap * 8), .inl f))] hz)) (gmc (sz + 1) cap) (gms (sz + 1) cap) (va_A [(o, .inr (0, [.ref ar, .int (nI sz)])), (ar, .inl (cI, (cap * 8), .inl f))] hz) := by
  refine my_metW (ws := wsX0_append) (cc := cX0_append) (maxL := 1) (ret := (some .int)) (Qc := fun A => va_Qi (fun r : Int32 => fun u : Nat × Nat × (Nat → Int32) => r = nI sz ∧ u.2.1 = gcap (sz + 1) cap ∧ ∀ j, j < cap * 8 → u.2.2 j = f j) (fun (u : Nat × Nat × (Nat → Int32)) t9 => BW dC dI A [(o, .inr (0, [.ref u.1, .int (nI (sz + 1))])), (u.1, .inl (cI, (u.2.1 * 8), .inl u.2.2))] t9) A) (by decide) rfl (Nat.le_of_ble_eq_true rfl) ?_
  intro p e s m below meth c ls A X hl hK hA hP hD hS
  obtain ⟨hx, hb, hr, hml, hown, hts, hlocks, hnm⟩ := id X
  have hl : lv_has ls 1 [(0, .ref o)] := hl
  refine lv_aload_n hx hb dX0_append_0 rfl (lv_at hl 0 rfl) ?_
  refine lv_aload_n hx hb dX0_append_1 rfl (lv_at hl 0 rfl) ?_
  refine my_get X hK in_X0_append_X0 hP 0 rfl rfl 1 (by decide) (List.mem_of_getElem? (i := 1) rfl) rfl dX0_append_2 ?_
  refine lv_iconst (v := 1) hx hb dX0_append_5 (by decide) ?_
  refine lv_iadd hx hb dX0_append_6 ?_
  refine my_topi (nI_add sz 1) ?_
  have hPc := hP.sub (ws' := [(o, .inr (0, [.ref ar, .int (nI sz)])), (ar, .inl (cI, (cap * 8), .inl f))]) [0, 1] rfl
  have hDc := hD.sub (ws' := [(o, .inr (0, [.ref ar, .int (nI sz)])), (ar, .inl (cI, (cap * 8), .inl f))]) [0, 1] (by decide) rfl
  refine my_callv (ws := [(o, .inr (0, [.ref ar, .int (nI sz)])), (ar, .inl (cI, (cap * 8), .inl f))]) (F := []) (wr := []) (my_runV (n := 1) (As := [.int (nI (sz + 1))]) (rest := []) (C := RX0) X PW.blind (PW.pre hPc hDc hK) (va_recv hK.1 hPc (ci := 0) (q0 := 0) rfl rfl) (c_makeRoom l dC dI cI cJ cO _ o ar cap f sz (sz + 1) (by omega) (by omega)) gX0_append_X0_makeRoom rfl rfl rfl (by decide +kernel) rfl ⟨Nat.le_of_ble_eq_true rfl, Nat.le_of_ble_eq_true rfl⟩ hl.1 rfl (Nat.le_of_ble_eq_true rfl) dX0_append_7 ⟨by show 0 + _ ≤ gmc (sz + 1) cap; omega, by show 0 + _ ≤ gms (sz + 1) cap; omega⟩) hS hP hD hA [0, 1] [] rfl rfl (by decide) (by decide) (fun u H locs hw_1 hP hD hS => ?_)
  obtain ⟨ar1_2, cap1_3, f1_4⟩ := u
  try dsimp only at hw_1
  have hP : va_P (dC, dI) vwCl [(o, .inr (0, [.ref ar1_2, .int (nI sz)])), (ar1_2, .inl (cI, (cap1_3 * 8), .inl f1_4))] H := hP.sub [0, 1] rfl
  have hD : va_D A [(o, .inr (0, [.ref ar1_2, .int (nI sz)])), (ar1_2, .inl (cI, (cap1_3 * 8), .inl f1_4))] := hD.sub [0, 1] (by decide) rfl
  have hge := gcap_ge (sz + 1) cap h1
  have hle := gcap_le (sz + 1) cap hcap
  obtain ⟨hc1, hf1⟩ := hw_1
  refine lv_aload_n hx hb dX0_append_10 rfl (lv_at hl 0 rfl) ?_
  refine my_get X hK in_X0_append_X0 hP 0 rfl rfl 1 (by decide) (List.mem_of_getElem? (i := 1) rfl) rfl dX0_append_11 ?_
  refine lv_iconst (v := 1) hx hb dX0_append_14 (by decide) ?_
  refine lv_iadd hx hb dX0_append_15 ?_
  refine my_topi (nI_add sz 1) ?_
  refine lv_bipush (v := 8) hx hb dX0_append_16 (by decide) ?_
  refine lv_imul hx hb dX0_append_18 ?_
  refine my_topi (pk_mul (sz + 1) 8) ?_
  refine lv_aload_n hx hb dX0_append_19 rfl (lv_at hl 0 rfl) ?_
  refine my_get X hK in_X0_append_X0 hP 0 rfl rfl 0 (by decide) (List.mem_of_getElem? (i := 2) rfl) rfl dX0_append_20 ?_
  refine va_alen (v := nI (cap1_3 * 8)) hx hb hK.1 hP 1 0 rfl rfl rfl dX0_append_23 ?_
  refine lv_icmp_gt (tgt := 37) hx hb dX0_append_24 (by decide) (fun c_24 => ?_) (fun c_24 => ?_)
  · have c_24 := nc_lt (a := cap1_3 * 8) (b := (sz + 1) * 8) c_24 (by omega) (by omega)
    exact False.elim (by omega)
  · have c_24 := nc_nlt (a := cap1_3 * 8) (b := (sz + 1) * 8) c_24 (by omega) (by omega)
    refine lv_aload_n hx hb dX0_append_27 rfl (lv_at hl 0 rfl) ?_
    refine lv_dup hx hb dX0_append_28 rfl ?_
    refine my_get X hK in_X0_append_X0 hP 0 rfl rfl 1 (by decide) (List.mem_of_getElem? (i := 1) rfl) rfl dX0_append_29 ?_
    refine lv_iconst (v := 1) hx hb dX0_append_32 (by decide) ?_
    refine lv_iadd hx hb dX0_append_33 ?_
    refine my_topi (nI_add sz 1) ?_
    refine my_put X hK in_X0_append_X0 tyX0 tyX0_ok nmX0 hP hD hS 0 rfl rfl 1 (by decide) (List.mem_of_getElem? (i := 1) rfl) rfl rfl rfl (Nat.le_of_ble_eq_true rfl) dX0_append_34 (fun H locs hP hD hS => ?_)
    have hP : va_P (dC, dI) vwCl ([(o, .inr (0, [.ref ar1_2, .int (nI (sz + 1))])), (ar1_2, .inl (cI, (cap1_3 * 8), .inl f1_4))]) H := hP
    have hD : va_D A ([(o, .inr (0, [.ref ar1_2, .int (nI (sz + 1))])), (ar1_2, .inl (cI, (cap1_3 * 8), .inl f1_4))]) := hD
    refine lv_aload_n hx hb dX0_append_37 rfl (lv_at hl 0 rfl) ?_
    refine my_get X hK in_X0_append_X0 hP 0 rfl rfl 1 (by decide) (List.mem_of_getElem? (i := 1) rfl) rfl dX0_append_38 ?_
    refine lv_iconst (v := 1) hx hb dX0_append_41 (by decide) ?_
    refine lv_isub hx hb dX0_append_42 ?_
    refine my_topi (pk_sub (a := sz + 1) (b := 1) (by omega)) ?_
    exact my_iret (WSf := (fun u : Nat × Nat × (Nat → Int32) => [(o, .inr (0, [.ref u.1, .int (nI (sz + 1))])), (u.1, .inl (cI, (u.2.1 * 8), .inl u.2.2))])) (ar1_2, cap1_3, f1_4) X (⟨by simp, hc1, hf1⟩) (hP) (hD) hS (by omega) (by omega) dX0_append_43
end
section
set_option maxHeartbeats 200000 in
set_option maxRecDepth 100000 in
theorem lp_makePlain {p : Program} {l : Launch} {e : Env} {s : State} {m : MethodId} {below : List Frame} {meth : Method} {c : Code} {dC : Nat → ClassId} {dI : Nat → Nat → Nat} {cI cJ cO : ClassId} {A : Nat → Prop} (o : Nat) (ar : Nat) (cap : Nat) (f : Nat → Int32) (sz : Nat) (i : Nat) (kd : Int32) (w : Int32) (hi : i < sz) (hsz : sz ≤ cap) (hcap : cap ≤ 4001) (X : Cx p s m ([.ref o, .int (nI i), .int kd, .int w] : List Value).toArray meth c cX0_makePlain none 5 yX0_makePlain.cls yX0_makePlain.name wsX0_makePlain) (hK : Kn dC dI cI cJ cO s) (hA : ∀ q : Nat, s.heap.size ≤ q → A q) : ∀ (n : Nat) (t : Nat) (ht : t ≤ 8), 8 - t < n → ∀ (H : Heap) (locs : List Loc), va_P (dC, dI) vwCl ([(o, .inr (0, [.ref ar, .int (nI sz)])), (ar, .inl (cI, (cap * 8), .inl (zp f i t)))]) H → va_D A ([(o, .inr (0, [.ref ar, .int (nI sz)])), (ar, .inl (cI, (cap * 8), .inl (zp f i t)))]) → va_S A s.heap H locs → ∀ (ls : Array Slot), lv_has ls 5 [(0, .ref o), (1, .int (nI i)), (2, .int kd), (3, .int w), (4, .int (nI t))] → W p l e ({ frames := 1, cells := 0, slots := 0, locals := 30 }) s m ([.ref o, .int (nI i), .int kd, .int w] : List Value).toArray below meth c H locs (0) (0) (MQ below (va_Qv (fun f1 : Nat → Int32 => f1 = ip f i (it8 kd w 0 0 0 0 0 0)) (fun (f1 : Nat → Int32) t9 => BW dC dI A [(o, .inr (0, [.ref ar, .int (nI sz)])), (ar, .inl (cI, (cap * 8), .inl f1))] t9) A) ([.ref o, .int (nI i), .int kd, .int w] : List Value).toArray s 0 0 A) (F0 m 3 ls []) := by
  obtain ⟨hx, hb, hr, hml, hown, hts, hlocks, hnm⟩ := id X
  intro n
  induction n with
  | zero =>
    intro t ht hfu
    exact absurd hfu (Nat.not_lt_zero _)
  | succ n ih =>
    intro t ht hfu H locs hP hD hS ls hl
    refine lv_iload hx hb dX0_makePlain_3 (lv_at hl 4 rfl) ?_
    refine lv_bipush (v := 8) hx hb dX0_makePlain_5 (by decide) ?_
    refine lv_icmp_ge (tgt := 24) hx hb dX0_makePlain_7 (by decide) (fun c_7 => ?_) (fun c_7 => ?_)
    · have c_7 := nc_le (a := 8) (b := t) c_7 (by omega) (by omega)
      refine lv_aload_n hx hb dX0_makePlain_24 rfl (lv_at hl 0 rfl) ?_
      refine lv_iload_n hx hb dX0_makePlain_25 rfl (lv_at hl 1 rfl) ?_
      refine lv_iconst (v := 0) hx hb dX0_makePlain_26 (by decide) ?_
      refine lv_iload_n hx hb dX0_makePlain_27 rfl (lv_at hl 2 rfl) ?_
      have hPc := hP.sub (ws' := [(o, .inr (0, [.ref ar, .int (nI sz)])), (ar, .inl (cI, (cap * 8), .inl (zp f i t)))]) [0, 1] rfl
      have hDc := hD.sub (ws' := [(o, .inr (0, [.ref ar, .int (nI sz)])), (ar, .inl (cI, (cap * 8), .inl (zp f i t)))]) [0, 1] (by decide) rfl
      refine my_callv (ws := [(o, .inr (0, [.ref ar, .int (nI sz)])), (ar, .inl (cI, (cap * 8), .inl (zp f i t)))]) (F := []) (wr := []) (my_runV (n := 3) (As := [.int (nI i), .int 0, .int kd]) (rest := []) (C := RX0) X PW.blind (PW.pre hPc hDc hK) (va_recv hK.1 hPc (ci := 0) (q0 := 0) rfl rfl) (c_put l dC dI cI cJ cO _ o ar cap (zp f i t) sz i 0 kd (by omega) (by omega) (by omega) (by omega)) gX0_makePlain_X0_put rfl rfl rfl (by decide +kernel) rfl ⟨Nat.le_of_ble_eq_true rfl, Nat.le_of_ble_eq_true rfl⟩ hl.1 rfl (Nat.le_of_ble_eq_true rfl) dX0_makePlain_28 ⟨by first | decide | omega | (dsimp only; omega), by first | decide | omega | (dsimp only; omega)⟩) hS hP hD hA [0, 1] [] rfl rfl (by decide) (by decide) (fun u H locs hw_1 hP hD hS => ?_)
      have hP : va_P (dC, dI) vwCl [(o, .inr (0, [.ref ar, .int (nI sz)])), (ar, .inl (cI, (cap * 8), .inl (upd (zp f i t) (i * 8 + 0) kd)))] H := hP.sub [0, 1] rfl
      have hD : va_D A [(o, .inr (0, [.ref ar, .int (nI sz)])), (ar, .inl (cI, (cap * 8), .inl (upd (zp f i t) (i * 8 + 0) kd)))] := hD.sub [0, 1] (by decide) rfl
      refine lv_aload_n hx hb dX0_makePlain_31 rfl (lv_at hl 0 rfl) ?_
      refine lv_iload_n hx hb dX0_makePlain_32 rfl (lv_at hl 1 rfl) ?_
      refine lv_iconst (v := 1) hx hb dX0_makePlain_33 (by decide) ?_
      refine lv_iload_n hx hb dX0_makePlain_34 rfl (lv_at hl 3 rfl) ?_
      have hPc := hP.sub (ws' := [(o, .inr (0, [.ref ar, .int (nI sz)])), (ar, .inl (cI, (cap * 8), .inl (upd (zp f i t) (i * 8 + 0) kd)))]) [0, 1] rfl
      have hDc := hD.sub (ws' := [(o, .inr (0, [.ref ar, .int (nI sz)])), (ar, .inl (cI, (cap * 8), .inl (upd (zp f i t) (i * 8 + 0) kd)))]) [0, 1] (by decide) rfl
      refine my_callv (ws := [(o, .inr (0, [.ref ar, .int (nI sz)])), (ar, .inl (cI, (cap * 8), .inl (upd (zp f i t) (i * 8 + 0) kd)))]) (F := []) (wr := []) (my_runV (n := 3) (As := [.int (nI i), .int 1, .int w]) (rest := []) (C := RX0) X PW.blind (PW.pre hPc hDc hK) (va_recv hK.1 hPc (ci := 0) (q0 := 0) rfl rfl) (c_put l dC dI cI cJ cO _ o ar cap (upd (zp f i t) (i * 8 + 0) kd) sz i 1 w (by omega) (by omega) (by omega) (by omega)) gX0_makePlain_X0_put rfl rfl rfl (by decide +kernel) rfl ⟨Nat.le_of_ble_eq_true rfl, Nat.le_of_ble_eq_true rfl⟩ hl.1 rfl (Nat.le_of_ble_eq_true rfl) dX0_makePlain_35 ⟨by first | decide | omega | (dsimp only; omega), by first | decide | omega | (dsimp only; omega)⟩) hS hP hD hA [0, 1] [] rfl rfl (by decide) (by decide) (fun u H locs hw_2 hP hD hS => ?_)
      have hP : va_P (dC, dI) vwCl [(o, .inr (0, [.ref ar, .int (nI sz)])), (ar, .inl (cI, (cap * 8), .inl (upd (upd (zp f i t) (i * 8 + 0) kd) (i * 8 + 1) w)))] H := hP.sub [0, 1] rfl
      have hD : va_D A [(o, .inr (0, [.ref ar, .int (nI sz)])), (ar, .inl (cI, (cap * 8), .inl (upd (upd (zp f i t) (i * 8 + 0) kd) (i * 8 + 1) w)))] := hD.sub [0, 1] (by decide) rfl
      exact my_vret (WSf := (fun f1 : Nat → Int32 => [(o, .inr (0, [.ref ar, .int (nI sz)])), (ar, .inl (cI, (cap * 8), .inl f1))])) (upd (upd (zp f i t) (i * 8 + 0) kd) (i * 8 + 1) w) X (by rw [show t = 8 by omega]; exact ip_plain f i kd w) (hP) (hD) hS (by first | decide | omega | (dsimp only; omega)) (by first | decide | omega | (dsimp only; omega)) dX0_makePlain_38
    · have c_7 := nc_nle (a := 8) (b := t) c_7 (by omega) (by omega)
      refine lv_aload_n hx hb dX0_makePlain_10 rfl (lv_at hl 0 rfl) ?_
      refine lv_iload_n hx hb dX0_makePlain_11 rfl (lv_at hl 1 rfl) ?_
      refine lv_iload hx hb dX0_makePlain_12 (lv_at hl 4 rfl) ?_
      refine lv_iconst (v := 0) hx hb dX0_makePlain_14 (by decide) ?_
      have hPc := hP.sub (ws' := [(o, .inr (0, [.ref ar, .int (nI sz)])), (ar, .inl (cI, (cap * 8), .inl (zp f i t)))]) [0, 1] rfl
      have hDc := hD.sub (ws' := [(o, .inr (0, [.ref ar, .int (nI sz)])), (ar, .inl (cI, (cap * 8), .inl (zp f i t)))]) [0, 1] (by decide) rfl
      refine my_callv (ws := [(o, .inr (0, [.ref ar, .int (nI sz)])), (ar, .inl (cI, (cap * 8), .inl (zp f i t)))]) (F := []) (wr := []) (my_runV (n := 3) (As := [.int (nI i), .int (nI t), .int 0]) (rest := []) (C := RX0) X PW.blind (PW.pre hPc hDc hK) (va_recv hK.1 hPc (ci := 0) (q0 := 0) rfl rfl) (c_put l dC dI cI cJ cO _ o ar cap (zp f i t) sz i t 0 (by omega) (by omega) (by omega) (by omega)) gX0_makePlain_X0_put rfl rfl rfl (by decide +kernel) rfl ⟨Nat.le_of_ble_eq_true rfl, Nat.le_of_ble_eq_true rfl⟩ hl.1 rfl (Nat.le_of_ble_eq_true rfl) dX0_makePlain_15 ⟨by first | decide | omega | (dsimp only; omega), by first | decide | omega | (dsimp only; omega)⟩) hS hP hD hA [0, 1] [] rfl rfl (by decide) (by decide) (fun u H locs hw_3 hP hD hS => ?_)
      have hP : va_P (dC, dI) vwCl [(o, .inr (0, [.ref ar, .int (nI sz)])), (ar, .inl (cI, (cap * 8), .inl (upd (zp f i t) (i * 8 + t) 0)))] H := hP.sub [0, 1] rfl
      have hD : va_D A [(o, .inr (0, [.ref ar, .int (nI sz)])), (ar, .inl (cI, (cap * 8), .inl (upd (zp f i t) (i * 8 + t) 0)))] := hD.sub [0, 1] (by decide) rfl
      refine lv_iinc (v := nI (t + 1)) (lv' := [(4, .int (nI (t + 1))), (0, .ref o), (1, .int (nI i)), (2, .int kd), (3, .int w)]) hx hb dX0_makePlain_18 hl (k := 4) rfl (nI_add t 1) (by decide) rfl (fun ls hl => ?_)
      refine lv_goto (tgt := 3) hx hb dX0_makePlain_21 (by decide) ?_
      rw [zp_s f i (by omega)] at hP hD
      exact ih  (t + 1) (by omega) (by omega) _ _ hP hD hS ls (lv_sub hl [1, 2, 3, 4, 0] rfl)
set_option maxHeartbeats 200000 in
set_option maxRecDepth 100000 in
theorem c_makePlain (l : Launch) (dC : Nat → ClassId) (dI : Nat → Nat → Nat) (cI cJ cO : ClassId) (hz : Nat) (o : Nat) (ar : Nat) (cap : Nat) (f : Nat → Int32) (sz : Nat) (i : Nat) (kd : Int32) (w : Int32) (hi : i < sz) (hsz : sz ≤ cap) (hcap : cap ≤ 4001) : Met l yX0_makePlain wsX0_makePlain ({ frames := 1, cells := 0, slots := 0, locals := 30 }) (va_Pc [.ref o, .int (nI i), .int kd, .int w] (PW dC dI cI cJ cO [(o, .inr (0, [.ref ar, .int (nI sz)])), (ar, .inl (cI, (cap * 8), .inl f))] hz)) (va_Qv (fun f1 : Nat → Int32 => f1 = ip f i (it8 kd w 0 0 0 0 0 0)) (fun (f1 : Nat → Int32) t9 => BW dC dI (va_A [(o, .inr (0, [.ref ar, .int (nI sz)])), (ar, .inl (cI, (cap * 8), .inl f))] hz) [(o, .inr (0, [.ref ar, .int (nI sz)])), (ar, .inl (cI, (cap * 8), .inl f1))] t9) (va_A [(o, .inr (0, [.ref ar, .int (nI sz)])), (ar, .inl (cI, (cap * 8), .inl f))] hz)) 0 0 (va_A [(o, .inr (0, [.ref ar, .int (nI sz)])), (ar, .inl (cI, (cap * 8), .inl f))] hz) := by
  refine my_metW (ws := wsX0_makePlain) (cc := cX0_makePlain) (maxL := 5) (ret := none) (Qc := fun A => va_Qv (fun f1 : Nat → Int32 => f1 = ip f i (it8 kd w 0 0 0 0 0 0)) (fun (f1 : Nat → Int32) t9 => BW dC dI A [(o, .inr (0, [.ref ar, .int (nI sz)])), (ar, .inl (cI, (cap * 8), .inl f1))] t9) A) (by decide) rfl (Nat.le_of_ble_eq_true rfl) ?_
  intro p e s m below meth c ls A X hl hK hA hP hD hS
  obtain ⟨hx, hb, hr, hml, hown, hts, hlocks, hnm⟩ := id X
  have hl : lv_has ls 5 [(0, .ref o), (1, .int (nI i)), (2, .int kd), (3, .int w)] := hl
  refine lv_iconst (v := 0) hx hb dX0_makePlain_0 (by decide) ?_
  refine lv_istore (lv' := [(4, .int 0), (0, .ref o), (1, .int (nI i)), (2, .int kd), (3, .int w)]) hx hb dX0_makePlain_1 hl (by decide) rfl (fun ls hl => ?_)
  rw [← zp_0 f i] at hP hD
  exact lp_makePlain o ar cap f sz i kd w hi hsz hcap X hK hA (8 - 0 + 1) 0 (by omega) (by omega) _ _ hP hD hS ls (lv_sub hl [1, 2, 3, 4, 0] rfl)
set_option maxHeartbeats 200000 in
set_option maxRecDepth 100000 in
theorem c_makeSolid (l : Launch) (dC : Nat → ClassId) (dI : Nat → Nat → Nat) (cI cJ cO : ClassId) (hz : Nat) (o : Nat) (ar : Nat) (cap : Nat) (f : Nat → Int32) (sz : Nat) (i : Nat) (kd : Int32) (w : Int32) (h : Int32) (d : Int32) (sh : Int32) (hi : i < sz) (hsz : sz ≤ cap) (hcap : cap ≤ 4001) : Met l yX0_makeSolid wsX0_makeSolid ({ frames := 2, cells := 0, slots := 0, locals := 60 }) (va_Pc [.ref o, .int (nI i), .int kd, .int w, .int h, .int d, .int sh] (PW dC dI cI cJ cO [(o, .inr (0, [.ref ar, .int (nI sz)])), (ar, .inl (cI, (cap * 8), .inl f))] hz)) (va_Qv (fun f1 : Nat → Int32 => f1 = ip f i (it8 kd w h d sh 0 0 0)) (fun (f1 : Nat → Int32) t9 => BW dC dI (va_A [(o, .inr (0, [.ref ar, .int (nI sz)])), (ar, .inl (cI, (cap * 8), .inl f))] hz) [(o, .inr (0, [.ref ar, .int (nI sz)])), (ar, .inl (cI, (cap * 8), .inl f1))] t9) (va_A [(o, .inr (0, [.ref ar, .int (nI sz)])), (ar, .inl (cI, (cap * 8), .inl f))] hz)) 0 0 (va_A [(o, .inr (0, [.ref ar, .int (nI sz)])), (ar, .inl (cI, (cap * 8), .inl f))] hz) := by
  refine my_metW (ws := wsX0_makeSolid) (cc := cX0_makeSolid) (maxL := 7) (ret := none) (Qc := fun A => va_Qv (fun f1 : Nat → Int32 => f1 = ip f i (it8 kd w h d sh 0 0 0)) (fun (f1 : Nat → Int32) t9 => BW dC dI A [(o, .inr (0, [.ref ar, .int (nI sz)])), (ar, .inl (cI, (cap * 8), .inl f1))] t9) A) (by decide) rfl (Nat.le_of_ble_eq_true rfl) ?_
  intro p e s m below meth c ls A X hl hK hA hP hD hS
  obtain ⟨hx, hb, hr, hml, hown, hts, hlocks, hnm⟩ := id X
  have hl : lv_has ls 7 [(0, .ref o), (1, .int (nI i)), (2, .int kd), (3, .int w), (4, .int h), (5, .int d), (6, .int sh)] := hl
  refine lv_aload_n hx hb dX0_makeSolid_0 rfl (lv_at hl 0 rfl) ?_
  refine lv_iload_n hx hb dX0_makeSolid_1 rfl (lv_at hl 1 rfl) ?_
  refine lv_iload_n hx hb dX0_makeSolid_2 rfl (lv_at hl 2 rfl) ?_
  refine lv_iload_n hx hb dX0_makeSolid_3 rfl (lv_at hl 3 rfl) ?_
  have hPc := hP.sub (ws' := [(o, .inr (0, [.ref ar, .int (nI sz)])), (ar, .inl (cI, (cap * 8), .inl f))]) [0, 1] rfl
  have hDc := hD.sub (ws' := [(o, .inr (0, [.ref ar, .int (nI sz)])), (ar, .inl (cI, (cap * 8), .inl f))]) [0, 1] (by decide) rfl
  refine my_callv (ws := [(o, .inr (0, [.ref ar, .int (nI sz)])), (ar, .inl (cI, (cap * 8), .inl f))]) (F := []) (wr := []) (my_runV (n := 3) (As := [.int (nI i), .int kd, .int w]) (rest := []) (C := RX0) X PW.blind (PW.pre hPc hDc hK) (va_recv hK.1 hPc (ci := 0) (q0 := 0) rfl rfl) (c_makePlain l dC dI cI cJ cO _ o ar cap f sz i kd w (by omega) (by omega) (by omega)) gX0_makeSolid_X0_makePlain rfl rfl rfl (by decide +kernel) rfl ⟨Nat.le_of_ble_eq_true rfl, Nat.le_of_ble_eq_true rfl⟩ hl.1 rfl (Nat.le_of_ble_eq_true rfl) dX0_makeSolid_4 ⟨by first | decide | omega | (dsimp only; omega), by first | decide | omega | (dsimp only; omega)⟩) hS hP hD hA [0, 1] [] rfl rfl (by decide) (by decide) (fun u H locs hw_1 hP hD hS => ?_)
  obtain ⟨f1_2, rfl⟩ : ∃ z, z = u := ⟨_, rfl⟩
  try dsimp only at hw_1
  subst hw_1
  have hP : va_P (dC, dI) vwCl [(o, .inr (0, [.ref ar, .int (nI sz)])), (ar, .inl (cI, (cap * 8), .inl (ip f i (it8 kd w 0 0 0 0 0 0))))] H := hP.sub [0, 1] rfl
  have hD : va_D A [(o, .inr (0, [.ref ar, .int (nI sz)])), (ar, .inl (cI, (cap * 8), .inl (ip f i (it8 kd w 0 0 0 0 0 0))))] := hD.sub [0, 1] (by decide) rfl
  refine lv_aload_n hx hb dX0_makeSolid_7 rfl (lv_at hl 0 rfl) ?_
  refine lv_iload_n hx hb dX0_makeSolid_8 rfl (lv_at hl 1 rfl) ?_
  refine lv_iconst (v := 2) hx hb dX0_makeSolid_9 (by decide) ?_
  refine lv_iload hx hb dX0_makeSolid_10 (lv_at hl 4 rfl) ?_
  have hPc := hP.sub (ws' := [(o, .inr (0, [.ref ar, .int (nI sz)])), (ar, .inl (cI, (cap * 8), .inl (ip f i (it8 kd w 0 0 0 0 0 0))))]) [0, 1] rfl
  have hDc := hD.sub (ws' := [(o, .inr (0, [.ref ar, .int (nI sz)])), (ar, .inl (cI, (cap * 8), .inl (ip f i (it8 kd w 0 0 0 0 0 0))))]) [0, 1] (by decide) rfl
  refine my_callv (ws := [(o, .inr (0, [.ref ar, .int (nI sz)])), (ar, .inl (cI, (cap * 8), .inl (ip f i (it8 kd w 0 0 0 0 0 0))))]) (F := []) (wr := []) (my_runV (n := 3) (As := [.int (nI i), .int 2, .int h]) (rest := []) (C := RX0) X PW.blind (PW.pre hPc hDc hK) (va_recv hK.1 hPc (ci := 0) (q0 := 0) rfl rfl) (c_put l dC dI cI cJ cO _ o ar cap (ip f i (it8 kd w 0 0 0 0 0 0)) sz i 2 h (by omega) (by omega) (by omega) (by omega)) gX0_makeSolid_X0_put rfl rfl rfl (by decide +kernel) rfl ⟨Nat.le_of_ble_eq_true rfl, Nat.le_of_ble_eq_true rfl⟩ hl.1 rfl (Nat.le_of_ble_eq_true rfl) dX0_makeSolid_12 ⟨by first | decide | omega | (dsimp only; omega), by first | decide | omega | (dsimp only; omega)⟩) hS hP hD hA [0, 1] [] rfl rfl (by decide) (by decide) (fun u H locs hw_3 hP hD hS => ?_)
  have hP : va_P (dC, dI) vwCl [(o, .inr (0, [.ref ar, .int (nI sz)])), (ar, .inl (cI, (cap * 8), .inl (upd (ip f i (it8 kd w 0 0 0 0 0 0)) (i * 8 + 2) h)))] H := hP.sub [0, 1] rfl
  have hD : va_D A [(o, .inr (0, [.ref ar, .int (nI sz)])), (ar, .inl (cI, (cap * 8), .inl (upd (ip f i (it8 kd w 0 0 0 0 0 0)) (i * 8 + 2) h)))] := hD.sub [0, 1] (by decide) rfl
  refine lv_aload_n hx hb dX0_makeSolid_15 rfl (lv_at hl 0 rfl) ?_
  refine lv_iload_n hx hb dX0_makeSolid_16 rfl (lv_at hl 1 rfl) ?_
  refine lv_iconst (v := 3) hx hb dX0_makeSolid_17 (by decide) ?_
  refine lv_iload hx hb dX0_makeSolid_18 (lv_at hl 5 rfl) ?_
  have hPc := hP.sub (ws' := [(o, .inr (0, [.ref ar, .int (nI sz)])), (ar, .inl (cI, (cap * 8), .inl (upd (ip f i (it8 kd w 0 0 0 0 0 0)) (i * 8 + 2) h)))]) [0, 1] rfl
  have hDc := hD.sub (ws' := [(o, .inr (0, [.ref ar, .int (nI sz)])), (ar, .inl (cI, (cap * 8), .inl (upd (ip f i (it8 kd w 0 0 0 0 0 0)) (i * 8 + 2) h)))]) [0, 1] (by decide) rfl
  refine my_callv (ws := [(o, .inr (0, [.ref ar, .int (nI sz)])), (ar, .inl (cI, (cap * 8), .inl (upd (ip f i (it8 kd w 0 0 0 0 0 0)) (i * 8 + 2) h)))]) (F := []) (wr := []) (my_runV (n := 3) (As := [.int (nI i), .int 3, .int d]) (rest := []) (C := RX0) X PW.blind (PW.pre hPc hDc hK) (va_recv hK.1 hPc (ci := 0) (q0 := 0) rfl rfl) (c_put l dC dI cI cJ cO _ o ar cap (upd (ip f i (it8 kd w 0 0 0 0 0 0)) (i * 8 + 2) h) sz i 3 d (by omega) (by omega) (by omega) (by omega)) gX0_makeSolid_X0_put rfl rfl rfl (by decide +kernel) rfl ⟨Nat.le_of_ble_eq_true rfl, Nat.le_of_ble_eq_true rfl⟩ hl.1 rfl (Nat.le_of_ble_eq_true rfl) dX0_makeSolid_20 ⟨by first | decide | omega | (dsimp only; omega), by first | decide | omega | (dsimp only; omega)⟩) hS hP hD hA [0, 1] [] rfl rfl (by decide) (by decide) (fun u H locs hw_4 hP hD hS => ?_)
  have hP : va_P (dC, dI) vwCl [(o, .inr (0, [.ref ar, .int (nI sz)])), (ar, .inl (cI, (cap * 8), .inl (upd (upd (ip f i (it8 kd w 0 0 0 0 0 0)) (i * 8 + 2) h) (i * 8 + 3) d)))] H := hP.sub [0, 1] rfl
  have hD : va_D A [(o, .inr (0, [.ref ar, .int (nI sz)])), (ar, .inl (cI, (cap * 8), .inl (upd (upd (ip f i (it8 kd w 0 0 0 0 0 0)) (i * 8 + 2) h) (i * 8 + 3) d)))] := hD.sub [0, 1] (by decide) rfl
  refine lv_aload_n hx hb dX0_makeSolid_23 rfl (lv_at hl 0 rfl) ?_
  refine lv_iload_n hx hb dX0_makeSolid_24 rfl (lv_at hl 1 rfl) ?_
  refine lv_iconst (v := 4) hx hb dX0_makeSolid_25 (by decide) ?_
  refine lv_iload hx hb dX0_makeSolid_26 (lv_at hl 6 rfl) ?_
  have hPc := hP.sub (ws' := [(o, .inr (0, [.ref ar, .int (nI sz)])), (ar, .inl (cI, (cap * 8), .inl (upd (upd (ip f i (it8 kd w 0 0 0 0 0 0)) (i * 8 + 2) h) (i * 8 + 3) d)))]) [0, 1] rfl
  have hDc := hD.sub (ws' := [(o, .inr (0, [.ref ar, .int (nI sz)])), (ar, .inl (cI, (cap * 8), .inl (upd (upd (ip f i (it8 kd w 0 0 0 0 0 0)) (i * 8 + 2) h) (i * 8 + 3) d)))]) [0, 1] (by decide) rfl
  refine my_callv (ws := [(o, .inr (0, [.ref ar, .int (nI sz)])), (ar, .inl (cI, (cap * 8), .inl (upd (upd (ip f i (it8 kd w 0 0 0 0 0 0)) (i * 8 + 2) h) (i * 8 + 3) d)))]) (F := []) (wr := []) (my_runV (n := 3) (As := [.int (nI i), .int 4, .int sh]) (rest := []) (C := RX0) X PW.blind (PW.pre hPc hDc hK) (va_recv hK.1 hPc (ci := 0) (q0 := 0) rfl rfl) (c_put l dC dI cI cJ cO _ o ar cap (upd (upd (ip f i (it8 kd w 0 0 0 0 0 0)) (i * 8 + 2) h) (i * 8 + 3) d) sz i 4 sh (by omega) (by omega) (by omega) (by omega)) gX0_makeSolid_X0_put rfl rfl rfl (by decide +kernel) rfl ⟨Nat.le_of_ble_eq_true rfl, Nat.le_of_ble_eq_true rfl⟩ hl.1 rfl (Nat.le_of_ble_eq_true rfl) dX0_makeSolid_28 ⟨by first | decide | omega | (dsimp only; omega), by first | decide | omega | (dsimp only; omega)⟩) hS hP hD hA [0, 1] [] rfl rfl (by decide) (by decide) (fun u H locs hw_5 hP hD hS => ?_)
  have hP : va_P (dC, dI) vwCl [(o, .inr (0, [.ref ar, .int (nI sz)])), (ar, .inl (cI, (cap * 8), .inl (upd (upd (upd (ip f i (it8 kd w 0 0 0 0 0 0)) (i * 8 + 2) h) (i * 8 + 3) d) (i * 8 + 4) sh)))] H := hP.sub [0, 1] rfl
  have hD : va_D A [(o, .inr (0, [.ref ar, .int (nI sz)])), (ar, .inl (cI, (cap * 8), .inl (upd (upd (upd (ip f i (it8 kd w 0 0 0 0 0 0)) (i * 8 + 2) h) (i * 8 + 3) d) (i * 8 + 4) sh)))] := hD.sub [0, 1] (by decide) rfl
  exact my_vret (WSf := (fun f1 : Nat → Int32 => [(o, .inr (0, [.ref ar, .int (nI sz)])), (ar, .inl (cI, (cap * 8), .inl f1))])) (upd (upd (upd (ip f i (it8 kd w 0 0 0 0 0 0)) (i * 8 + 2) h) (i * 8 + 3) d) (i * 8 + 4) sh) X (ip_solid f i kd w h d sh) (hP) (hD) hS (by first | decide | omega | (dsimp only; omega)) (by first | decide | omega | (dsimp only; omega)) dX0_makeSolid_31
set_option maxHeartbeats 200000 in
set_option maxRecDepth 100000 in
theorem c_makeGlue (l : Launch) (dC : Nat → ClassId) (dI : Nat → Nat → Nat) (cI cJ cO : ClassId) (hz : Nat) (o : Nat) (ar : Nat) (cap : Nat) (f : Nat → Int32) (sz : Nat) (i : Nat) (w : Int32) (st : Int32) (od : Int32) (z : Int32) (hi : i < sz) (hsz : sz ≤ cap) (hcap : cap ≤ 4001) : Met l yX0_makeGlue wsX0_makeGlue ({ frames := 2, cells := 0, slots := 0, locals := 60 }) (va_Pc [.ref o, .int (nI i), .int w, .int st, .int od, .int z] (PW dC dI cI cJ cO [(o, .inr (0, [.ref ar, .int (nI sz)])), (ar, .inl (cI, (cap * 8), .inl f))] hz)) (va_Qv (fun f1 : Nat → Int32 => f1 = ip f i (it8 5 w 0 0 0 st od z)) (fun (f1 : Nat → Int32) t9 => BW dC dI (va_A [(o, .inr (0, [.ref ar, .int (nI sz)])), (ar, .inl (cI, (cap * 8), .inl f))] hz) [(o, .inr (0, [.ref ar, .int (nI sz)])), (ar, .inl (cI, (cap * 8), .inl f1))] t9) (va_A [(o, .inr (0, [.ref ar, .int (nI sz)])), (ar, .inl (cI, (cap * 8), .inl f))] hz)) 0 0 (va_A [(o, .inr (0, [.ref ar, .int (nI sz)])), (ar, .inl (cI, (cap * 8), .inl f))] hz) := by
  refine my_metW (ws := wsX0_makeGlue) (cc := cX0_makeGlue) (maxL := 6) (ret := none) (Qc := fun A => va_Qv (fun f1 : Nat → Int32 => f1 = ip f i (it8 5 w 0 0 0 st od z)) (fun (f1 : Nat → Int32) t9 => BW dC dI A [(o, .inr (0, [.ref ar, .int (nI sz)])), (ar, .inl (cI, (cap * 8), .inl f1))] t9) A) (by decide) rfl (Nat.le_of_ble_eq_true rfl) ?_
  intro p e s m below meth c ls A X hl hK hA hP hD hS
  obtain ⟨hx, hb, hr, hml, hown, hts, hlocks, hnm⟩ := id X
  have hl : lv_has ls 6 [(0, .ref o), (1, .int (nI i)), (2, .int w), (3, .int st), (4, .int od), (5, .int z)] := hl
  refine lv_aload_n hx hb dX0_makeGlue_0 rfl (lv_at hl 0 rfl) ?_
  refine lv_iload_n hx hb dX0_makeGlue_1 rfl (lv_at hl 1 rfl) ?_
  refine lv_iconst (v := 5) hx hb dX0_makeGlue_2 (by decide) ?_
  refine lv_iload_n hx hb dX0_makeGlue_3 rfl (lv_at hl 2 rfl) ?_
  have hPc := hP.sub (ws' := [(o, .inr (0, [.ref ar, .int (nI sz)])), (ar, .inl (cI, (cap * 8), .inl f))]) [0, 1] rfl
  have hDc := hD.sub (ws' := [(o, .inr (0, [.ref ar, .int (nI sz)])), (ar, .inl (cI, (cap * 8), .inl f))]) [0, 1] (by decide) rfl
  refine my_callv (ws := [(o, .inr (0, [.ref ar, .int (nI sz)])), (ar, .inl (cI, (cap * 8), .inl f))]) (F := []) (wr := []) (my_runV (n := 3) (As := [.int (nI i), .int 5, .int w]) (rest := []) (C := RX0) X PW.blind (PW.pre hPc hDc hK) (va_recv hK.1 hPc (ci := 0) (q0 := 0) rfl rfl) (c_makePlain l dC dI cI cJ cO _ o ar cap f sz i 5 w (by omega) (by omega) (by omega)) gX0_makeGlue_X0_makePlain rfl rfl rfl (by decide +kernel) rfl ⟨Nat.le_of_ble_eq_true rfl, Nat.le_of_ble_eq_true rfl⟩ hl.1 rfl (Nat.le_of_ble_eq_true rfl) dX0_makeGlue_4 ⟨by first | decide | omega | (dsimp only; omega), by first | decide | omega | (dsimp only; omega)⟩) hS hP hD hA [0, 1] [] rfl rfl (by decide) (by decide) (fun u H locs hw_1 hP hD hS => ?_)
  obtain ⟨f1_2, rfl⟩ : ∃ z, z = u := ⟨_, rfl⟩
  try dsimp only at hw_1
  subst hw_1
  have hP : va_P (dC, dI) vwCl [(o, .inr (0, [.ref ar, .int (nI sz)])), (ar, .inl (cI, (cap * 8), .inl (ip f i (it8 5 w 0 0 0 0 0 0))))] H := hP.sub [0, 1] rfl
  have hD : va_D A [(o, .inr (0, [.ref ar, .int (nI sz)])), (ar, .inl (cI, (cap * 8), .inl (ip f i (it8 5 w 0 0 0 0 0 0))))] := hD.sub [0, 1] (by decide) rfl
  refine lv_aload_n hx hb dX0_makeGlue_7 rfl (lv_at hl 0 rfl) ?_
  refine lv_iload_n hx hb dX0_makeGlue_8 rfl (lv_at hl 1 rfl) ?_
  refine lv_iconst (v := 5) hx hb dX0_makeGlue_9 (by decide) ?_
  refine lv_iload_n hx hb dX0_makeGlue_10 rfl (lv_at hl 3 rfl) ?_
  have hPc := hP.sub (ws' := [(o, .inr (0, [.ref ar, .int (nI sz)])), (ar, .inl (cI, (cap * 8), .inl (ip f i (it8 5 w 0 0 0 0 0 0))))]) [0, 1] rfl
  have hDc := hD.sub (ws' := [(o, .inr (0, [.ref ar, .int (nI sz)])), (ar, .inl (cI, (cap * 8), .inl (ip f i (it8 5 w 0 0 0 0 0 0))))]) [0, 1] (by decide) rfl
  refine my_callv (ws := [(o, .inr (0, [.ref ar, .int (nI sz)])), (ar, .inl (cI, (cap * 8), .inl (ip f i (it8 5 w 0 0 0 0 0 0))))]) (F := []) (wr := []) (my_runV (n := 3) (As := [.int (nI i), .int 5, .int st]) (rest := []) (C := RX0) X PW.blind (PW.pre hPc hDc hK) (va_recv hK.1 hPc (ci := 0) (q0 := 0) rfl rfl) (c_put l dC dI cI cJ cO _ o ar cap (ip f i (it8 5 w 0 0 0 0 0 0)) sz i 5 st (by omega) (by omega) (by omega) (by omega)) gX0_makeGlue_X0_put rfl rfl rfl (by decide +kernel) rfl ⟨Nat.le_of_ble_eq_true rfl, Nat.le_of_ble_eq_true rfl⟩ hl.1 rfl (Nat.le_of_ble_eq_true rfl) dX0_makeGlue_11 ⟨by first | decide | omega | (dsimp only; omega), by first | decide | omega | (dsimp only; omega)⟩) hS hP hD hA [0, 1] [] rfl rfl (by decide) (by decide) (fun u H locs hw_3 hP hD hS => ?_)
  have hP : va_P (dC, dI) vwCl [(o, .inr (0, [.ref ar, .int (nI sz)])), (ar, .inl (cI, (cap * 8), .inl (upd (ip f i (it8 5 w 0 0 0 0 0 0)) (i * 8 + 5) st)))] H := hP.sub [0, 1] rfl
  have hD : va_D A [(o, .inr (0, [.ref ar, .int (nI sz)])), (ar, .inl (cI, (cap * 8), .inl (upd (ip f i (it8 5 w 0 0 0 0 0 0)) (i * 8 + 5) st)))] := hD.sub [0, 1] (by decide) rfl
  refine lv_aload_n hx hb dX0_makeGlue_14 rfl (lv_at hl 0 rfl) ?_
  refine lv_iload_n hx hb dX0_makeGlue_15 rfl (lv_at hl 1 rfl) ?_
  refine lv_bipush (v := 6) hx hb dX0_makeGlue_16 (by decide) ?_
  refine lv_iload hx hb dX0_makeGlue_18 (lv_at hl 4 rfl) ?_
  have hPc := hP.sub (ws' := [(o, .inr (0, [.ref ar, .int (nI sz)])), (ar, .inl (cI, (cap * 8), .inl (upd (ip f i (it8 5 w 0 0 0 0 0 0)) (i * 8 + 5) st)))]) [0, 1] rfl
  have hDc := hD.sub (ws' := [(o, .inr (0, [.ref ar, .int (nI sz)])), (ar, .inl (cI, (cap * 8), .inl (upd (ip f i (it8 5 w 0 0 0 0 0 0)) (i * 8 + 5) st)))]) [0, 1] (by decide) rfl
  refine my_callv (ws := [(o, .inr (0, [.ref ar, .int (nI sz)])), (ar, .inl (cI, (cap * 8), .inl (upd (ip f i (it8 5 w 0 0 0 0 0 0)) (i * 8 + 5) st)))]) (F := []) (wr := []) (my_runV (n := 3) (As := [.int (nI i), .int 6, .int od]) (rest := []) (C := RX0) X PW.blind (PW.pre hPc hDc hK) (va_recv hK.1 hPc (ci := 0) (q0 := 0) rfl rfl) (c_put l dC dI cI cJ cO _ o ar cap (upd (ip f i (it8 5 w 0 0 0 0 0 0)) (i * 8 + 5) st) sz i 6 od (by omega) (by omega) (by omega) (by omega)) gX0_makeGlue_X0_put rfl rfl rfl (by decide +kernel) rfl ⟨Nat.le_of_ble_eq_true rfl, Nat.le_of_ble_eq_true rfl⟩ hl.1 rfl (Nat.le_of_ble_eq_true rfl) dX0_makeGlue_20 ⟨by first | decide | omega | (dsimp only; omega), by first | decide | omega | (dsimp only; omega)⟩) hS hP hD hA [0, 1] [] rfl rfl (by decide) (by decide) (fun u H locs hw_4 hP hD hS => ?_)
  have hP : va_P (dC, dI) vwCl [(o, .inr (0, [.ref ar, .int (nI sz)])), (ar, .inl (cI, (cap * 8), .inl (upd (upd (ip f i (it8 5 w 0 0 0 0 0 0)) (i * 8 + 5) st) (i * 8 + 6) od)))] H := hP.sub [0, 1] rfl
  have hD : va_D A [(o, .inr (0, [.ref ar, .int (nI sz)])), (ar, .inl (cI, (cap * 8), .inl (upd (upd (ip f i (it8 5 w 0 0 0 0 0 0)) (i * 8 + 5) st) (i * 8 + 6) od)))] := hD.sub [0, 1] (by decide) rfl
  refine lv_aload_n hx hb dX0_makeGlue_23 rfl (lv_at hl 0 rfl) ?_
  refine lv_iload_n hx hb dX0_makeGlue_24 rfl (lv_at hl 1 rfl) ?_
  refine lv_bipush (v := 7) hx hb dX0_makeGlue_25 (by decide) ?_
  refine lv_iload hx hb dX0_makeGlue_27 (lv_at hl 5 rfl) ?_
  have hPc := hP.sub (ws' := [(o, .inr (0, [.ref ar, .int (nI sz)])), (ar, .inl (cI, (cap * 8), .inl (upd (upd (ip f i (it8 5 w 0 0 0 0 0 0)) (i * 8 + 5) st) (i * 8 + 6) od)))]) [0, 1] rfl
  have hDc := hD.sub (ws' := [(o, .inr (0, [.ref ar, .int (nI sz)])), (ar, .inl (cI, (cap * 8), .inl (upd (upd (ip f i (it8 5 w 0 0 0 0 0 0)) (i * 8 + 5) st) (i * 8 + 6) od)))]) [0, 1] (by decide) rfl
  refine my_callv (ws := [(o, .inr (0, [.ref ar, .int (nI sz)])), (ar, .inl (cI, (cap * 8), .inl (upd (upd (ip f i (it8 5 w 0 0 0 0 0 0)) (i * 8 + 5) st) (i * 8 + 6) od)))]) (F := []) (wr := []) (my_runV (n := 3) (As := [.int (nI i), .int 7, .int z]) (rest := []) (C := RX0) X PW.blind (PW.pre hPc hDc hK) (va_recv hK.1 hPc (ci := 0) (q0 := 0) rfl rfl) (c_put l dC dI cI cJ cO _ o ar cap (upd (upd (ip f i (it8 5 w 0 0 0 0 0 0)) (i * 8 + 5) st) (i * 8 + 6) od) sz i 7 z (by omega) (by omega) (by omega) (by omega)) gX0_makeGlue_X0_put rfl rfl rfl (by decide +kernel) rfl ⟨Nat.le_of_ble_eq_true rfl, Nat.le_of_ble_eq_true rfl⟩ hl.1 rfl (Nat.le_of_ble_eq_true rfl) dX0_makeGlue_29 ⟨by first | decide | omega | (dsimp only; omega), by first | decide | omega | (dsimp only; omega)⟩) hS hP hD hA [0, 1] [] rfl rfl (by decide) (by decide) (fun u H locs hw_5 hP hD hS => ?_)
  have hP : va_P (dC, dI) vwCl [(o, .inr (0, [.ref ar, .int (nI sz)])), (ar, .inl (cI, (cap * 8), .inl (upd (upd (upd (ip f i (it8 5 w 0 0 0 0 0 0)) (i * 8 + 5) st) (i * 8 + 6) od) (i * 8 + 7) z)))] H := hP.sub [0, 1] rfl
  have hD : va_D A [(o, .inr (0, [.ref ar, .int (nI sz)])), (ar, .inl (cI, (cap * 8), .inl (upd (upd (upd (ip f i (it8 5 w 0 0 0 0 0 0)) (i * 8 + 5) st) (i * 8 + 6) od) (i * 8 + 7) z)))] := hD.sub [0, 1] (by decide) rfl
  exact my_vret (WSf := (fun f1 : Nat → Int32 => [(o, .inr (0, [.ref ar, .int (nI sz)])), (ar, .inl (cI, (cap * 8), .inl f1))])) (upd (upd (upd (ip f i (it8 5 w 0 0 0 0 0 0)) (i * 8 + 5) st) (i * 8 + 6) od) (i * 8 + 7) z) X (ip_glue f i w st od z) (hP) (hD) hS (by first | decide | omega | (dsimp only; omega)) (by first | decide | omega | (dsimp only; omega)) dX0_makeGlue_32
theorem in_X0_clear_X0 : ∀ w ∈ wsX00, w ∈ wsX0_clear := fun _ h => List.mem_cons_of_mem _ (List.mem_append_right _ h)
set_option maxHeartbeats 200000 in
set_option maxRecDepth 100000 in
theorem c_iclear (l : Launch) (dC : Nat → ClassId) (dI : Nat → Nat → Nat) (cI cJ cO : ClassId) (hz : Nat) (o : Nat) (ar : Nat) (cap : Nat) (f : Nat → Int32) (sz : Nat)  : Met l yX0_clear wsX0_clear ({ frames := 0, cells := 0, slots := 0, locals := 0 }) (va_Pc [.ref o] (PW dC dI cI cJ cO [(o, .inr (0, [.ref ar, .int (nI sz)])), (ar, .inl (cI, (cap * 8), .inl f))] hz)) (va_Qv (fun _ : Unit => True) (fun (_ : Unit) t9 => BW dC dI (va_A [(o, .inr (0, [.ref ar, .int (nI sz)])), (ar, .inl (cI, (cap * 8), .inl f))] hz) [(o, .inr (0, [.ref ar, .int 0])), (ar, .inl (cI, (cap * 8), .inl f))] t9) (va_A [(o, .inr (0, [.ref ar, .int (nI sz)])), (ar, .inl (cI, (cap * 8), .inl f))] hz)) 0 0 (va_A [(o, .inr (0, [.ref ar, .int (nI sz)])), (ar, .inl (cI, (cap * 8), .inl f))] hz) := by
  refine my_metW (ws := wsX0_clear) (cc := cX0_clear) (maxL := 1) (ret := none) (Qc := fun A => va_Qv (fun _ : Unit => True) (fun (_ : Unit) t9 => BW dC dI A [(o, .inr (0, [.ref ar, .int 0])), (ar, .inl (cI, (cap * 8), .inl f))] t9) A) (by decide) rfl (Nat.le_of_ble_eq_true rfl) ?_
  intro p e s m below meth c ls A X hl hK hA hP hD hS
  obtain ⟨hx, hb, hr, hml, hown, hts, hlocks, hnm⟩ := id X
  have hl : lv_has ls 1 [(0, .ref o)] := hl
  refine lv_aload_n hx hb dX0_clear_0 rfl (lv_at hl 0 rfl) ?_
  refine lv_iconst (v := 0) hx hb dX0_clear_1 (by decide) ?_
  refine my_put X hK in_X0_clear_X0 tyX0 tyX0_ok nmX0 hP hD hS 0 rfl rfl 1 (by decide) (List.mem_of_getElem? (i := 1) rfl) rfl rfl rfl (Nat.le_of_ble_eq_true rfl) dX0_clear_2 (fun H locs hP hD hS => ?_)
  have hP : va_P (dC, dI) vwCl ([(o, .inr (0, [.ref ar, .int 0])), (ar, .inl (cI, (cap * 8), .inl f))]) H := hP
  have hD : va_D A ([(o, .inr (0, [.ref ar, .int 0])), (ar, .inl (cI, (cap * 8), .inl f))]) := hD
  exact my_vret (WSf := (fun _ : Unit => [(o, .inr (0, [.ref ar, .int 0])), (ar, .inl (cI, (cap * 8), .inl f))])) () X (trivial) (hP) (hD) hS (by first | decide | omega | (dsimp only; omega)) (by first | decide | omega | (dsimp only; omega)) dX0_clear_5
theorem in_X0_dropFirst_X0 : ∀ w ∈ wsX00, w ∈ wsX0_dropFirst := fun _ h => List.mem_cons_of_mem _ (List.mem_append_right _ h)
set_option maxHeartbeats 200000 in
set_option maxRecDepth 100000 in
theorem c_dropFirst (l : Launch) (dC : Nat → ClassId) (dI : Nat → Nat → Nat) (cI cJ cO : ClassId) (hz : Nat) (o : Nat) (ar : Nat) (cap : Nat) (f : Nat → Int32) (sz : Nat) (n : Nat) (hn : n ≤ sz) (hsz : sz ≤ cap) (hcap : cap ≤ 4001) : Met l yX0_dropFirst wsX0_dropFirst ({ frames := 1, cells := 0, slots := 0, locals := 30 }) (va_Pc [.ref o, .int (nI n)] (PW dC dI cI cJ cO [(o, .inr (0, [.ref ar, .int (nI sz)])), (ar, .inl (cI, (cap * 8), .inl f))] hz)) (va_Qv (fun f1 : Nat → Int32 => ∀ j, j < (sz - n) * 8 → f1 j = f (n * 8 + j)) (fun (f1 : Nat → Int32) t9 => BW dC dI (va_A [(o, .inr (0, [.ref ar, .int (nI sz)])), (ar, .inl (cI, (cap * 8), .inl f))] hz) [(o, .inr (0, [.ref ar, .int (nI (sz - n))])), (ar, .inl (cI, (cap * 8), .inl f1))] t9) (va_A [(o, .inr (0, [.ref ar, .int (nI sz)])), (ar, .inl (cI, (cap * 8), .inl f))] hz)) 0 0 (va_A [(o, .inr (0, [.ref ar, .int (nI sz)])), (ar, .inl (cI, (cap * 8), .inl f))] hz) := by
  refine my_metW (ws := wsX0_dropFirst) (cc := cX0_dropFirst) (maxL := 2) (ret := none) (Qc := fun A => va_Qv (fun f1 : Nat → Int32 => ∀ j, j < (sz - n) * 8 → f1 j = f (n * 8 + j)) (fun (f1 : Nat → Int32) t9 => BW dC dI A [(o, .inr (0, [.ref ar, .int (nI (sz - n))])), (ar, .inl (cI, (cap * 8), .inl f1))] t9) A) (by decide) rfl (Nat.le_of_ble_eq_true rfl) ?_
  intro p e s m below meth c ls A X hl hK hA hP hD hS
  obtain ⟨hx, hb, hr, hml, hown, hts, hlocks, hnm⟩ := id X
  have hl : lv_has ls 2 [(0, .ref o), (1, .int (nI n))] := hl
  refine lv_iload_n hx hb dX0_dropFirst_0 rfl (lv_at hl 1 rfl) ?_
  refine lv_if_le (tgt := 12) hx hb dX0_dropFirst_1 (by decide) (fun c_1 => ?_) (fun c_1 => ?_)
  · have c_1 := nc_le (a := n) (b := 0) c_1 (by omega) (by omega)
    have hn0 : n = 0 := by omega
    have hs0 : sz = sz - n := by omega
    rw [hs0] at hP hD
    exact my_vret (WSf := (fun f1 : Nat → Int32 => [(o, .inr (0, [.ref ar, .int (nI (sz - n))])), (ar, .inl (cI, (cap * 8), .inl f1))])) f X (fun j _ => by rw [hn0]; simp) (hP) (hD) hS (by first | decide | omega | (dsimp only; omega)) (by first | decide | omega | (dsimp only; omega)) dX0_dropFirst_12
  · have c_1 := nc_nle (a := n) (b := 0) c_1 (by omega) (by omega)
    refine lv_iload_n hx hb dX0_dropFirst_4 rfl (lv_at hl 1 rfl) ?_
    refine lv_aload_n hx hb dX0_dropFirst_5 rfl (lv_at hl 0 rfl) ?_
    refine my_get X hK in_X0_dropFirst_X0 hP 0 rfl rfl 1 (by decide) (List.mem_of_getElem? (i := 1) rfl) rfl dX0_dropFirst_6 ?_
    refine lv_icmp_le (tgt := 13) hx hb dX0_dropFirst_9 (by decide) (fun c_9 => ?_) (fun c_9 => ?_)
    · have c_9 := nc_le (a := n) (b := sz) c_9 (by omega) (by omega)
      refine lv_aload_n hx hb dX0_dropFirst_13 rfl (lv_at hl 0 rfl) ?_
      refine my_get X hK in_X0_dropFirst_X0 hP 0 rfl rfl 0 (by decide) (List.mem_of_getElem? (i := 2) rfl) rfl dX0_dropFirst_14 ?_
      refine lv_iload_n hx hb dX0_dropFirst_17 rfl (lv_at hl 1 rfl) ?_
      refine lv_bipush (v := 8) hx hb dX0_dropFirst_18 (by decide) ?_
      refine lv_imul hx hb dX0_dropFirst_20 ?_
      refine my_topi (pk_mul n 8) ?_
      refine lv_aload_n hx hb dX0_dropFirst_21 rfl (lv_at hl 0 rfl) ?_
      refine my_get X hK in_X0_dropFirst_X0 hP 0 rfl rfl 0 (by decide) (List.mem_of_getElem? (i := 2) rfl) rfl dX0_dropFirst_22 ?_
      refine lv_iconst (v := 0) hx hb dX0_dropFirst_25 (by decide) ?_
      refine lv_aload_n hx hb dX0_dropFirst_26 rfl (lv_at hl 0 rfl) ?_
      refine my_get X hK in_X0_dropFirst_X0 hP 0 rfl rfl 1 (by decide) (List.mem_of_getElem? (i := 1) rfl) rfl dX0_dropFirst_27 ?_
      refine lv_iload_n hx hb dX0_dropFirst_30 rfl (lv_at hl 1 rfl) ?_
      refine lv_isub hx hb dX0_dropFirst_31 ?_
      refine my_topi (pk_sub (a := sz) (b := n) (by omega)) ?_
      refine lv_bipush (v := 8) hx hb dX0_dropFirst_32 (by decide) ?_
      refine lv_imul hx hb dX0_dropFirst_34 ?_
      refine my_topi (pk_mul (sz - n) 8) ?_
      refine my_copyi (sp := (n * 8)) (dp := 0) (n := ((sz - n) * 8)) X hK (List.mem_of_getElem? (i := 3) rfl) (List.mem_of_getElem? (i := 4) rfl) (List.mem_of_getElem? (i := 5) rfl) (List.mem_of_getElem? (i := 6) rfl) hP hD hS 1 1 rfl rfl rfl rfl rfl (by omega) (by omega) (by omega) (by omega) (Nat.le_of_ble_eq_true rfl) (Nat.le_of_ble_eq_true rfl) hl.1 dX0_dropFirst_35 (fun H locs hP hD hS => ?_)
      have hP : va_P (dC, dI) vwCl ([(o, .inr (0, [.ref ar, .int (nI sz)])), (ar, .inl (cI, (cap * 8), .inl (va_cpy f f (n * 8) 0 ((sz - n) * 8))))]) H := hP
      have hD : va_D A ([(o, .inr (0, [.ref ar, .int (nI sz)])), (ar, .inl (cI, (cap * 8), .inl (va_cpy f f (n * 8) 0 ((sz - n) * 8))))]) := hD
      refine lv_aload_n hx hb dX0_dropFirst_38 rfl (lv_at hl 0 rfl) ?_
      refine lv_dup hx hb dX0_dropFirst_39 rfl ?_
      refine my_get X hK in_X0_dropFirst_X0 hP 0 rfl rfl 1 (by decide) (List.mem_of_getElem? (i := 1) rfl) rfl dX0_dropFirst_40 ?_
      refine lv_iload_n hx hb dX0_dropFirst_43 rfl (lv_at hl 1 rfl) ?_
      refine lv_isub hx hb dX0_dropFirst_44 ?_
      refine my_topi (pk_sub (a := sz) (b := n) (by omega)) ?_
      refine my_put X hK in_X0_dropFirst_X0 tyX0 tyX0_ok nmX0 hP hD hS 0 rfl rfl 1 (by decide) (List.mem_of_getElem? (i := 1) rfl) rfl rfl rfl (Nat.le_of_ble_eq_true rfl) dX0_dropFirst_45 (fun H locs hP hD hS => ?_)
      have hP : va_P (dC, dI) vwCl ([(o, .inr (0, [.ref ar, .int (nI (sz - n))])), (ar, .inl (cI, (cap * 8), .inl (va_cpy f f (n * 8) 0 ((sz - n) * 8))))]) H := hP
      have hD : va_D A ([(o, .inr (0, [.ref ar, .int (nI (sz - n))])), (ar, .inl (cI, (cap * 8), .inl (va_cpy f f (n * 8) 0 ((sz - n) * 8))))]) := hD
      exact my_vret (WSf := (fun f1 : Nat → Int32 => [(o, .inr (0, [.ref ar, .int (nI (sz - n))])), (ar, .inl (cI, (cap * 8), .inl f1))])) (va_cpy f f (n * 8) 0 ((sz - n) * 8)) X (fun j hj => my_cpy (by omega)) (hP) (hD) hS (by first | decide | omega | (dsimp only; omega)) (by first | decide | omega | (dsimp only; omega)) dX0_dropFirst_48
    · have c_9 := nc_nle (a := n) (b := sz) c_9 (by omega) (by omega)
      exact False.elim (by omega)
theorem in_X0_copyFrom_X0 : ∀ w ∈ wsX00, w ∈ wsX0_copyFrom := fun _ h => List.mem_cons_of_mem _ (List.mem_append_right _ h)
set_option maxHeartbeats 200000 in
set_option maxRecDepth 100000 in
theorem c_copyFrom (l : Launch) (dC : Nat → ClassId) (dI : Nat → Nat → Nat) (cI cJ cO : ClassId) (hz : Nat) (o : Nat) (ar : Nat) (cap : Nat) (f : Nat → Int32) (sz : Nat) (o2 : Nat) (ar2 : Nat) (cap2 : Nat) (f2 : Nat → Int32) (sz2 : Nat) (fs : Nat) (en : Nat) (h1 : fs ≤ en) (h2 : en ≤ sz2) (h3 : sz2 ≤ cap2) (h4 : cap2 ≤ 4001) (h5 : cap ≤ 4001) : Met l yX0_copyFrom wsX0_copyFrom ({ frames := 3, cells := gmc (en - fs) cap, slots := gms (en - fs) cap, locals := 90 }) (va_Pc [.ref o, .ref o2, .int (nI fs), .int (nI en)] (PW dC dI cI cJ cO [(o, .inr (0, [.ref ar, .int (nI sz)])), (ar, .inl (cI, (cap * 8), .inl f)), (o2, .inr (0, [.ref ar2, .int (nI sz2)])), (ar2, .inl (cI, (cap2 * 8), .inl f2))] hz)) (va_Qv (fun u : Nat × Nat × (Nat → Int32) => u.2.1 = gcap (en - fs) cap ∧ ∀ j, j < (en - fs) * 8 → u.2.2 j = f2 (fs * 8 + j)) (fun (u : Nat × Nat × (Nat → Int32)) t9 => BW dC dI (va_A [(o, .inr (0, [.ref ar, .int (nI sz)])), (ar, .inl (cI, (cap * 8), .inl f)), (o2, .inr (0, [.ref ar2, .int (nI sz2)])), (ar2, .inl (cI, (cap2 * 8), .inl f2))] hz) [(o, .inr (0, [.ref u.1, .int (nI (en - fs))])), (u.1, .inl (cI, (u.2.1 * 8), .inl u.2.2)), (o2, .inr (0, [.ref ar2, .int (nI sz2)])), (ar2, .inl (cI, (cap2 * 8), .inl f2))] t9) (va_A [(o, .inr (0, [.ref ar, .int (nI sz)])), (ar, .inl (cI, (cap * 8), .inl f)), (o2, .inr (0, [.ref ar2, .int (nI sz2)])), (ar2, .inl (cI, (cap2 * 8), .inl f2))] hz)) (gmc (en - fs) cap) (gms (en - fs) cap) (va_A [(o, .inr (0, [.ref ar, .int (nI sz)])), (ar, .inl (cI, (cap * 8), .inl f)), (o2, .inr (0, [.ref ar2, .int (nI sz2)])), (ar2, .inl (cI, (cap2 * 8), .inl f2))] hz) := by
  refine my_metW (ws := wsX0_copyFrom) (cc := cX0_copyFrom) (maxL := 5) (ret := none) (Qc := fun A => va_Qv (fun u : Nat × Nat × (Nat → Int32) => u.2.1 = gcap (en - fs) cap ∧ ∀ j, j < (en - fs) * 8 → u.2.2 j = f2 (fs * 8 + j)) (fun (u : Nat × Nat × (Nat → Int32)) t9 => BW dC dI A [(o, .inr (0, [.ref u.1, .int (nI (en - fs))])), (u.1, .inl (cI, (u.2.1 * 8), .inl u.2.2)), (o2, .inr (0, [.ref ar2, .int (nI sz2)])), (ar2, .inl (cI, (cap2 * 8), .inl f2))] t9) A) (by decide) rfl (Nat.le_of_ble_eq_true rfl) ?_
  intro p e s m below meth c ls A X hl hK hA hP hD hS
  obtain ⟨hx, hb, hr, hml, hown, hts, hlocks, hnm⟩ := id X
  have hl : lv_has ls 5 [(0, .ref o), (1, .ref o2), (2, .int (nI fs)), (3, .int (nI en))] := hl
  refine lv_aload_n hx hb dX0_copyFrom_0 rfl (lv_at hl 0 rfl) ?_
  refine lv_iconst (v := 0) hx hb dX0_copyFrom_1 (by decide) ?_
  refine my_put X hK in_X0_copyFrom_X0 tyX0 tyX0_ok nmX0 hP hD hS 0 rfl rfl 1 (by decide) (List.mem_of_getElem? (i := 1) rfl) rfl rfl rfl (Nat.le_of_ble_eq_true rfl) dX0_copyFrom_2 (fun H locs hP hD hS => ?_)
  have hP : va_P (dC, dI) vwCl ([(o, .inr (0, [.ref ar, .int 0])), (ar, .inl (cI, (cap * 8), .inl f)), (o2, .inr (0, [.ref ar2, .int (nI sz2)])), (ar2, .inl (cI, (cap2 * 8), .inl f2))]) H := hP
  have hD : va_D A ([(o, .inr (0, [.ref ar, .int 0])), (ar, .inl (cI, (cap * 8), .inl f)), (o2, .inr (0, [.ref ar2, .int (nI sz2)])), (ar2, .inl (cI, (cap2 * 8), .inl f2))]) := hD
  refine lv_iload_n hx hb dX0_copyFrom_5 rfl (lv_at hl 2 rfl) ?_
  refine lv_if_lt (tgt := 22) hx hb dX0_copyFrom_6 (by decide) (fun c_6 => ?_) (fun c_6 => ?_)
  · have c_6 := nc_lt (a := fs) (b := 0) c_6 (by omega) (by omega)
    exact False.elim (by omega)
  · have c_6 := nc_nlt (a := fs) (b := 0) c_6 (by omega) (by omega)
    refine lv_iload_n hx hb dX0_copyFrom_9 rfl (lv_at hl 3 rfl) ?_
    refine lv_aload_n hx hb dX0_copyFrom_10 rfl (lv_at hl 1 rfl) ?_
    refine my_get X hK in_X0_copyFrom_X0 hP 2 rfl rfl 1 (by decide) (List.mem_of_getElem? (i := 1) rfl) rfl dX0_copyFrom_11 ?_
    refine lv_icmp_gt (tgt := 22) hx hb dX0_copyFrom_14 (by decide) (fun c_14 => ?_) (fun c_14 => ?_)
    · have c_14 := nc_lt (a := sz2) (b := en) c_14 (by omega) (by omega)
      exact False.elim (by omega)
    · have c_14 := nc_nlt (a := sz2) (b := en) c_14 (by omega) (by omega)
      refine lv_iload_n hx hb dX0_copyFrom_17 rfl (lv_at hl 2 rfl) ?_
      refine lv_iload_n hx hb dX0_copyFrom_18 rfl (lv_at hl 3 rfl) ?_
      refine lv_icmp_le (tgt := 23) hx hb dX0_copyFrom_19 (by decide) (fun c_19 => ?_) (fun c_19 => ?_)
      · have c_19 := nc_le (a := fs) (b := en) c_19 (by omega) (by omega)
        refine lv_iload_n hx hb dX0_copyFrom_23 rfl (lv_at hl 3 rfl) ?_
        refine lv_iload_n hx hb dX0_copyFrom_24 rfl (lv_at hl 2 rfl) ?_
        refine lv_isub hx hb dX0_copyFrom_25 ?_
        refine my_topi (pk_sub (a := en) (b := fs) (by omega)) ?_
        refine lv_istore (lv' := [(4, .int (nI (en - fs))), (0, .ref o), (1, .ref o2), (2, .int (nI fs)), (3, .int (nI en))]) hx hb dX0_copyFrom_26 hl (by decide) rfl (fun ls hl => ?_)
        refine lv_aload_n hx hb dX0_copyFrom_28 rfl (lv_at hl 1 rfl) ?_
        refine lv_iload hx hb dX0_copyFrom_29 (lv_at hl 0 rfl) ?_
        have hPc := hP.sub (ws' := [(o, .inr (0, [.ref ar, .int 0])), (ar, .inl (cI, (cap * 8), .inl f))]) [0, 1] rfl
        have hDc := hD.sub (ws' := [(o, .inr (0, [.ref ar, .int 0])), (ar, .inl (cI, (cap * 8), .inl f))]) [0, 1] (by decide) rfl
        refine my_callv (ws := [(o, .inr (0, [.ref ar, .int 0])), (ar, .inl (cI, (cap * 8), .inl f)), (o2, .inr (0, [.ref ar2, .int (nI sz2)])), (ar2, .inl (cI, (cap2 * 8), .inl f2))]) (F := []) (wr := [(o2, .inr (0, [.ref ar2, .int (nI sz2)])), (ar2, .inl (cI, (cap2 * 8), .inl f2))]) (my_runV (n := 1) (As := [.int (nI (en - fs))]) (rest := []) (C := RX0) X PW.blind (PW.pre hPc hDc hK) (va_recv hK.1 hPc (ci := 0) (q0 := 0) rfl rfl) (c_makeRoom l dC dI cI cJ cO _ o ar cap f 0 (en - fs) (by omega) (by omega)) gX0_copyFrom_X0_makeRoom rfl rfl rfl (by decide +kernel) rfl ⟨Nat.le_of_ble_eq_true rfl, Nat.le_of_ble_eq_true rfl⟩ hl.1 rfl (Nat.le_of_ble_eq_true rfl) dX0_copyFrom_31 ⟨by show 0 + _ ≤ gmc (en - fs) cap; omega, by show 0 + _ ≤ gms (en - fs) cap; omega⟩) hS hP hD hA [0, 1] [2, 3] rfl rfl (by decide) (by decide) (fun u H locs hw_1 hP hD hS => ?_)
        obtain ⟨ar1_2, cap1_3, f1_4⟩ := u
        try dsimp only at hw_1
        have hP : va_P (dC, dI) vwCl [(o, .inr (0, [.ref ar1_2, .int (nI 0)])), (o2, .inr (0, [.ref ar2, .int (nI sz2)])), (ar2, .inl (cI, (cap2 * 8), .inl f2)), (ar1_2, .inl (cI, (cap1_3 * 8), .inl f1_4))] H := hP.sub [2, 0, 1, 3] rfl
        have hD : va_D A [(o, .inr (0, [.ref ar1_2, .int (nI 0)])), (o2, .inr (0, [.ref ar2, .int (nI sz2)])), (ar2, .inl (cI, (cap2 * 8), .inl f2)), (ar1_2, .inl (cI, (cap1_3 * 8), .inl f1_4))] := hD.sub [2, 0, 1, 3] (by decide) rfl
        have hge := gcap_ge (en - fs) cap (by omega)
        have hle := gcap_le (en - fs) cap h5
        obtain ⟨hc1, hf1⟩ := hw_1
        refine lv_iload hx hb dX0_copyFrom_34 (lv_at hl 0 rfl) ?_
        refine lv_bipush (v := 8) hx hb dX0_copyFrom_36 (by decide) ?_
        refine lv_imul hx hb dX0_copyFrom_38 ?_
        refine my_topi (pk_mul (en - fs) 8) ?_
        refine lv_aload_n hx hb dX0_copyFrom_39 rfl (lv_at hl 1 rfl) ?_
        refine my_get X hK in_X0_copyFrom_X0 hP 0 rfl rfl 0 (by decide) (List.mem_of_getElem? (i := 2) rfl) rfl dX0_copyFrom_40 ?_
        refine va_alen (v := nI (cap1_3 * 8)) hx hb hK.1 hP 3 0 rfl rfl rfl dX0_copyFrom_43 ?_
        refine lv_icmp_gt (tgt := 74) hx hb dX0_copyFrom_44 (by decide) (fun c_44 => ?_) (fun c_44 => ?_)
        · have c_44 := nc_lt (a := cap1_3 * 8) (b := (en - fs) * 8) c_44 (by omega) (by omega)
          exact False.elim (by omega)
        · have c_44 := nc_nlt (a := cap1_3 * 8) (b := (en - fs) * 8) c_44 (by omega) (by omega)
          refine lv_aload_n hx hb dX0_copyFrom_47 rfl (lv_at hl 2 rfl) ?_
          refine my_get X hK in_X0_copyFrom_X0 hP 1 rfl rfl 0 (by decide) (List.mem_of_getElem? (i := 2) rfl) rfl dX0_copyFrom_48 ?_
          refine lv_iload_n hx hb dX0_copyFrom_51 rfl (lv_at hl 3 rfl) ?_
          refine lv_bipush (v := 8) hx hb dX0_copyFrom_52 (by decide) ?_
          refine lv_imul hx hb dX0_copyFrom_54 ?_
          refine my_topi (pk_mul fs 8) ?_
          refine lv_aload_n hx hb dX0_copyFrom_55 rfl (lv_at hl 1 rfl) ?_
          refine my_get X hK in_X0_copyFrom_X0 hP 0 rfl rfl 0 (by decide) (List.mem_of_getElem? (i := 2) rfl) rfl dX0_copyFrom_56 ?_
          refine lv_iconst (v := 0) hx hb dX0_copyFrom_59 (by decide) ?_
          refine lv_iload hx hb dX0_copyFrom_60 (lv_at hl 0 rfl) ?_
          refine lv_bipush (v := 8) hx hb dX0_copyFrom_62 (by decide) ?_
          refine lv_imul hx hb dX0_copyFrom_64 ?_
          refine my_topi (pk_mul (en - fs) 8) ?_
          refine my_copyi (sp := (fs * 8)) (dp := 0) (n := ((en - fs) * 8)) X hK (List.mem_of_getElem? (i := 3) rfl) (List.mem_of_getElem? (i := 4) rfl) (List.mem_of_getElem? (i := 5) rfl) (List.mem_of_getElem? (i := 6) rfl) hP hD hS 2 3 rfl rfl rfl rfl rfl (by omega) (by omega) (by omega) (by omega) (Nat.le_of_ble_eq_true rfl) (Nat.le_of_ble_eq_true rfl) hl.1 dX0_copyFrom_65 (fun H locs hP hD hS => ?_)
          have hP : va_P (dC, dI) vwCl ([(o, .inr (0, [.ref ar1_2, .int (nI 0)])), (o2, .inr (0, [.ref ar2, .int (nI sz2)])), (ar2, .inl (cI, (cap2 * 8), .inl f2)), (ar1_2, .inl (cI, (cap1_3 * 8), .inl (va_cpy f2 f1_4 (fs * 8) 0 ((en - fs) * 8))))]) H := hP
          have hD : va_D A ([(o, .inr (0, [.ref ar1_2, .int (nI 0)])), (o2, .inr (0, [.ref ar2, .int (nI sz2)])), (ar2, .inl (cI, (cap2 * 8), .inl f2)), (ar1_2, .inl (cI, (cap1_3 * 8), .inl (va_cpy f2 f1_4 (fs * 8) 0 ((en - fs) * 8))))]) := hD
          refine lv_aload_n hx hb dX0_copyFrom_68 rfl (lv_at hl 1 rfl) ?_
          refine lv_iload hx hb dX0_copyFrom_69 (lv_at hl 0 rfl) ?_
          refine my_put X hK in_X0_copyFrom_X0 tyX0 tyX0_ok nmX0 hP hD hS 0 rfl rfl 1 (by decide) (List.mem_of_getElem? (i := 1) rfl) rfl rfl rfl (Nat.le_of_ble_eq_true rfl) dX0_copyFrom_71 (fun H locs hP hD hS => ?_)
          have hP : va_P (dC, dI) vwCl ([(o, .inr (0, [.ref ar1_2, .int (nI (en - fs))])), (o2, .inr (0, [.ref ar2, .int (nI sz2)])), (ar2, .inl (cI, (cap2 * 8), .inl f2)), (ar1_2, .inl (cI, (cap1_3 * 8), .inl (va_cpy f2 f1_4 (fs * 8) 0 ((en - fs) * 8))))]) H := hP
          have hD : va_D A ([(o, .inr (0, [.ref ar1_2, .int (nI (en - fs))])), (o2, .inr (0, [.ref ar2, .int (nI sz2)])), (ar2, .inl (cI, (cap2 * 8), .inl f2)), (ar1_2, .inl (cI, (cap1_3 * 8), .inl (va_cpy f2 f1_4 (fs * 8) 0 ((en - fs) * 8))))]) := hD
          exact my_vret (WSf := (fun u : Nat × Nat × (Nat → Int32) => [(o, .inr (0, [.ref u.1, .int (nI (en - fs))])), (u.1, .inl (cI, (u.2.1 * 8), .inl u.2.2)), (o2, .inr (0, [.ref ar2, .int (nI sz2)])), (ar2, .inl (cI, (cap2 * 8), .inl f2))])) (ar1_2, cap1_3, va_cpy f2 f1_4 (fs * 8) 0 ((en - fs) * 8)) X (⟨hc1, fun j hj => my_cpy (by omega)⟩) (hP.sub [0, 3, 1, 2] rfl) (hD.sub [0, 3, 1, 2] (by decide) rfl) hS (by omega) (by omega) dX0_copyFrom_74
      · have c_19 := nc_nle (a := fs) (b := en) c_19 (by omega) (by omega)
        exact False.elim (by omega)
theorem in_X0_init_X0 : ∀ w ∈ wsX00, w ∈ wsX0_init := fun _ h => List.mem_cons_of_mem _ (List.mem_append_right _ h)
set_option maxHeartbeats 200000 in
set_option maxRecDepth 100000 in
theorem c_Items_init (l : Launch) (dC : Nat → ClassId) (dI : Nat → Nat → Nat) (cI cJ cO : ClassId) (hz : Nat) (o : Nat) (rm : Nat) (h0 : 0 < rm) (h1 : rm ≤ 4001) : Met l yX0_init wsX0_init ({ frames := 1, cells := 1, slots := rm * 8, locals := 30 }) (va_Pc [.ref o, .int (nI rm)] (PW dC dI cI cJ cO [(o, .inr (0, [.null, .int 0]))] hz)) (va_Qv (fun q : Nat => True) (fun (q : Nat) t9 => BW dC dI (va_A [(o, .inr (0, [.null, .int 0]))] hz) [(o, .inr (0, [.ref q, .int 0])), (q, .inl (cI, (rm * 8), .inl (fun _ => 0)))] t9) (va_A [(o, .inr (0, [.null, .int 0]))] hz)) 1 (rm * 8) (va_A [(o, .inr (0, [.null, .int 0]))] hz) := by
  refine my_metW (ws := wsX0_init) (cc := cX0_init) (maxL := 2) (ret := none) (Qc := fun A => va_Qv (fun q : Nat => True) (fun (q : Nat) t9 => BW dC dI A [(o, .inr (0, [.ref q, .int 0])), (q, .inl (cI, (rm * 8), .inl (fun _ => 0)))] t9) A) (by decide) rfl (Nat.le_of_ble_eq_true rfl) ?_
  intro p e s m below meth c ls A X hl hK hA hP hD hS
  obtain ⟨hx, hb, hr, hml, hown, hts, hlocks, hnm⟩ := id X
  have hl : lv_has ls 2 [(0, .ref o), (1, .int (nI rm))] := hl
  refine lv_aload_n hx hb dX0_init_0 rfl (lv_at hl 0 rfl) ?_
  refine W.objInit hx hb hown (hts _ (List.mem_of_getElem? (i := 1) rfl)) (hts _ (List.mem_of_getElem? (i := 2) rfl)) (hts _ (List.mem_of_getElem? (i := 3) rfl)) rfl (by rw [hml]; exact hl.1) rfl dX0_init_1 (Nat.le_of_ble_eq_true rfl) (Nat.le_of_ble_eq_true rfl) ?_
  refine W.eq (g2 := F0 m 4 ls []) rfl ?_
  refine lv_aload_n hx hb dX0_init_4 rfl (lv_at hl 0 rfl) ?_
  refine lv_iload_n hx hb dX0_init_5 rfl (lv_at hl 1 rfl) ?_
  refine lv_if_le (tgt := 16) hx hb dX0_init_6 (by decide) (fun c_6 => ?_) (fun c_6 => ?_)
  · have c_6 := nc_le (a := rm) (b := 0) c_6 (by omega) (by omega)
    exact False.elim (by omega)
  · have c_6 := nc_nle (a := rm) (b := 0) c_6 (by omega) (by omega)
    refine lv_iload_n hx hb dX0_init_9 rfl (lv_at hl 1 rfl) ?_
    refine lv_bipush (v := 8) hx hb dX0_init_10 (by decide) ?_
    refine lv_imul hx hb dX0_init_12 ?_
    refine my_topi (pk_mul rm 8) ?_
    refine lv_goto (tgt := 18) hx hb dX0_init_13 (by decide) ?_
    refine my_newi (N := (rm * 8)) X hK (List.mem_of_getElem? (i := 4) rfl) hP hD hS hA (rfl) (by omega) (by omega) (by first | decide | omega | (dsimp only; omega)) (by first | decide | omega | (dsimp only; omega)) dX0_init_18 (fun q_1 H hP hD hS => ?_)
    have hP : va_P (dC, dI) vwCl ([(o, .inr (0, [.null, .int 0])), (q_1, .inl (cI, (rm * 8), .inl (fun _ => 0)))]) H := hP
    have hD : va_D A ([(o, .inr (0, [.null, .int 0])), (q_1, .inl (cI, (rm * 8), .inl (fun _ => 0)))]) := hD
    refine my_put X hK in_X0_init_X0 tyX0 tyX0_ok nmX0 hP hD hS 0 rfl rfl 0 (by decide) (List.mem_of_getElem? (i := 5) rfl) rfl rfl rfl (Nat.le_of_ble_eq_true rfl) dX0_init_20 (fun H locs hP hD hS => ?_)
    have hP : va_P (dC, dI) vwCl ([(o, .inr (0, [.ref q_1, .int 0])), (q_1, .inl (cI, (rm * 8), .inl (fun _ => 0)))]) H := hP
    have hD : va_D A ([(o, .inr (0, [.ref q_1, .int 0])), (q_1, .inl (cI, (rm * 8), .inl (fun _ => 0)))]) := hD
    exact my_vret (WSf := (fun q : Nat => [(o, .inr (0, [.ref q, .int 0])), (q, .inl (cI, (rm * 8), .inl (fun _ => 0)))])) q_1 X (trivial) (hP) (hD) hS (by omega) (by omega) dX0_init_23
end
section
theorem in_X4_total_X4 : ∀ w ∈ wsX40, w ∈ wsX4_total := fun _ h => List.mem_cons_of_mem _ (List.mem_append_right _ h)
set_option maxHeartbeats 200000 in
set_option maxRecDepth 100000 in
theorem c_total (l : Launch) (dC : Nat → ClassId) (dI : Nat → Nat → Nat) (cI cJ cO : ClassId) (su : Nat) (sa : Nat) (g : Nat → Int64) (z : Int64) (al : Int64) (dp : Int64) (wd : Int64) (lim : Int32)  : Met l yX4_total wsX4_total ({ frames := 0, cells := 0, slots := 0, locals := 0 }) (va_Pc [.ref su] (PR dC dI cI cJ cO [(su, .inr (4, [.ref sa, .long z, .long al, .long dp, .long wd, .int lim])), (sa, .inl (cJ, 4, .inr (.inl g)))])) (vp_Sl (fun r : Int64 => r = al - dp)) 0 0 (fun _ => False) := by
  refine my_met (ws := wsX4_total) (cc := cX4_total) (maxL := 1) (ret := (some .long)) (by decide) rfl (Nat.le_of_ble_eq_true rfl) ?_
  intro p e s m below meth c ls X hl hv
  obtain ⟨hP, hK⟩ := hv
  obtain ⟨hx, hb, hr, hml, hown, hts, hlocks, hnm⟩ := id X
  have hl : lv_has ls 1 [(0, .ref su)] := hl
  refine lv_aload_n hx hb dX4_total_0 rfl (lv_at hl 0 rfl) ?_
  refine my_get X hK in_X4_total_X4 hP 0 rfl rfl 2 (by decide) (List.mem_of_getElem? (i := 1) rfl) rfl dX4_total_1 ?_
  refine lv_aload_n hx hb dX4_total_4 rfl (lv_at hl 0 rfl) ?_
  refine my_get X hK in_X4_total_X4 hP 0 rfl rfl 3 (by decide) (List.mem_of_getElem? (i := 2) rfl) rfl dX4_total_5 ?_
  refine lv_lsub hx hb dX4_total_8 ?_
  exact my_lretR X (rfl) dX4_total_9
theorem in_X4_stretchOf_X4 : ∀ w ∈ wsX40, w ∈ wsX4_stretchOf := fun _ h => List.mem_cons_of_mem _ (List.mem_append_right _ h)
set_option maxHeartbeats 200000 in
set_option maxRecDepth 100000 in
theorem c_stretchOf (l : Launch) (dC : Nat → ClassId) (dI : Nat → Nat → Nat) (cI cJ cO : ClassId) (su : Nat) (sa : Nat) (g : Nat → Int64) (z : Int64) (al : Int64) (dp : Int64) (wd : Int64) (lim : Int32) (o : Int32)  : Met l yX4_stretchOf wsX4_stretchOf ({ frames := 0, cells := 0, slots := 0, locals := 0 }) (va_Pc [.ref su, .int o] (PR dC dI cI cJ cO [(su, .inr (4, [.ref sa, .long z, .long al, .long dp, .long wd, .int lim])), (sa, .inl (cJ, 4, .inr (.inl g)))])) (vp_Sl (fun r : Int64 => r = soF g o)) 0 0 (fun _ => False) := by
  refine my_met (ws := wsX4_stretchOf) (cc := cX4_stretchOf) (maxL := 2) (ret := (some .long)) (by decide) rfl (Nat.le_of_ble_eq_true rfl) ?_
  intro p e s m below meth c ls X hl hv
  obtain ⟨hP, hK⟩ := hv
  obtain ⟨hx, hb, hr, hml, hown, hts, hlocks, hnm⟩ := id X
  have hl : lv_has ls 2 [(0, .ref su), (1, .int o)] := hl
  refine lv_iload_n hx hb dX4_stretchOf_0 rfl (lv_at hl 1 rfl) ?_
  refine lv_if_lt (tgt := 18) hx hb dX4_stretchOf_1 (by decide) (fun c_1 => ?_) (fun c_1 => ?_)
  · refine lv_lconst (v := 0) hx hb dX4_stretchOf_18 (by decide) ?_
    exact my_lretR X (by simp [soF, c_1]) dX4_stretchOf_19
  · refine lv_iload_n hx hb dX4_stretchOf_4 rfl (lv_at hl 1 rfl) ?_
    refine lv_iconst (v := 4) hx hb dX4_stretchOf_5 (by decide) ?_
    refine lv_icmp_ge (tgt := 18) hx hb dX4_stretchOf_6 (by decide) (fun c_6 => ?_) (fun c_6 => ?_)
    · refine lv_lconst (v := 0) hx hb dX4_stretchOf_18 (by decide) ?_
      exact my_lretR X (by simp [soF, c_1, c_6]) dX4_stretchOf_19
    · obtain ⟨jo, hjo, ejo⟩ := ix4 c_1 c_6
      rw [ejo] at hl
      refine lv_aload_n hx hb dX4_stretchOf_9 rfl (lv_at hl 0 rfl) ?_
      refine my_get X hK in_X4_stretchOf_X4 hP 0 rfl rfl 0 (by decide) (List.mem_of_getElem? (i := 1) rfl) rfl dX4_stretchOf_10 ?_
      refine lv_iload_n hx hb dX4_stretchOf_13 rfl (lv_at hl 1 rfl) ?_
      refine my_lald (k := jo) hx hb hK hP 1 rfl (rfl) (by omega) (by omega) dX4_stretchOf_14 ?_
      refine lv_goto (tgt := 19) hx hb dX4_stretchOf_15 (by decide) ?_
      exact my_lretR X (by rw [ejo]; simp only [soF, nI_clamp (show jo < 2 ^ 31 by omega)]; rw [if_pos ⟨nI_pos (by omega), by intro q; exact absurd (nc_le (a := 4) (b := jo) q (by decide) (by omega)) (by omega)⟩]) dX4_stretchOf_19
theorem in_X4_highestOrder_X4 : ∀ w ∈ wsX40, w ∈ wsX4_highestOrder := fun _ h => List.mem_cons_of_mem _ (List.mem_append_right _ h)
set_option maxHeartbeats 200000 in
set_option maxRecDepth 100000 in
theorem c_highestOrder (l : Launch) (dC : Nat → ClassId) (dI : Nat → Nat → Nat) (cI cJ cO : ClassId) (su : Nat) (sa : Nat) (g : Nat → Int64) (z : Int64) (al : Int64) (dp : Int64) (wd : Int64) (lim : Int32)  : Met l yX4_highestOrder wsX4_highestOrder ({ frames := 0, cells := 0, slots := 0, locals := 0 }) (va_Pc [.ref su] (PR dC dI cI cJ cO [(su, .inr (4, [.ref sa, .long z, .long al, .long dp, .long wd, .int lim])), (sa, .inl (cJ, 4, .inr (.inl g)))])) (vp_Si (fun r : Int32 => r = hiO g)) 0 0 (fun _ => False) := by
  refine my_met (ws := wsX4_highestOrder) (cc := cX4_highestOrder) (maxL := 2) (ret := (some .int)) (by decide) rfl (Nat.le_of_ble_eq_true rfl) ?_
  intro p e s m below meth c ls X hl hv
  obtain ⟨hP, hK⟩ := hv
  obtain ⟨hx, hb, hr, hml, hown, hts, hlocks, hnm⟩ := id X
  have hl : lv_has ls 2 [(0, .ref su)] := hl
  refine lv_iconst (v := 3) hx hb dX4_highestOrder_0 (by decide) ?_
  refine lv_istore_n (lv' := [(1, .int 3), (0, .ref su)]) hx hb dX4_highestOrder_1 rfl hl (by decide) rfl (fun ls hl => ?_)
  refine lv_iload_n hx hb dX4_highestOrder_2 rfl (lv_at hl 0 rfl) ?_
  refine lv_if_lt (tgt := 25) hx hb dX4_highestOrder_3 (by decide) (fun c_3 => ?_) (fun c_3 => ?_)
  · exact absurd c_3 (by decide)
  · have c_3 := nc_nlt (a := 3) (b := 0) c_3 (by omega) (by omega)
    refine lv_aload_n hx hb dX4_highestOrder_6 rfl (lv_at hl 1 rfl) ?_
    refine my_get X hK in_X4_highestOrder_X4 hP 0 rfl rfl 0 (by decide) (List.mem_of_getElem? (i := 1) rfl) rfl dX4_highestOrder_7 ?_
    refine lv_iload_n hx hb dX4_highestOrder_10 rfl (lv_at hl 0 rfl) ?_
    refine my_lald (k := 3) hx hb hK hP 1 rfl (rfl) (by omega) (by omega) dX4_highestOrder_11 ?_
    refine lv_lconst (v := 0) hx hb dX4_highestOrder_12 (by decide) ?_
    refine my_lif_le (tgt := 19) hx hb dX4_highestOrder_13 dX4_highestOrder_14 (by decide) (fun c_13 => ?_) (fun c_13 => ?_)
    · refine lv_iinc (v := nI 2) (lv' := [(1, .int (nI 2)), (0, .ref su)]) hx hb dX4_highestOrder_19 hl (k := 0) rfl (by decide) (by decide) rfl (fun ls hl => ?_)
      refine lv_goto (tgt := 2) hx hb dX4_highestOrder_22 (by decide) ?_
      refine lv_iload_n hx hb dX4_highestOrder_2 rfl (lv_at hl 0 rfl) ?_
      refine lv_if_lt (tgt := 25) hx hb dX4_highestOrder_3 (by decide) (fun c_3 => ?_) (fun c_3 => ?_)
      · exact absurd c_3 (by decide)
      · have c_3 := nc_nlt (a := 2) (b := 0) c_3 (by omega) (by omega)
        refine lv_aload_n hx hb dX4_highestOrder_6 rfl (lv_at hl 1 rfl) ?_
        refine my_get X hK in_X4_highestOrder_X4 hP 0 rfl rfl 0 (by decide) (List.mem_of_getElem? (i := 1) rfl) rfl dX4_highestOrder_7 ?_
        refine lv_iload_n hx hb dX4_highestOrder_10 rfl (lv_at hl 0 rfl) ?_
        refine my_lald (k := 2) hx hb hK hP 1 rfl (rfl) (by omega) (by omega) dX4_highestOrder_11 ?_
        refine lv_lconst (v := 0) hx hb dX4_highestOrder_12 (by decide) ?_
        refine my_lif_le (tgt := 19) hx hb dX4_highestOrder_13 dX4_highestOrder_14 (by decide) (fun c_13x => ?_) (fun c_13x => ?_)
        · refine lv_iinc (v := nI 1) (lv' := [(1, .int (nI 1)), (0, .ref su)]) hx hb dX4_highestOrder_19 hl (k := 0) rfl (by decide) (by decide) rfl (fun ls hl => ?_)
          refine lv_goto (tgt := 2) hx hb dX4_highestOrder_22 (by decide) ?_
          refine lv_iload_n hx hb dX4_highestOrder_2 rfl (lv_at hl 0 rfl) ?_
          refine lv_if_lt (tgt := 25) hx hb dX4_highestOrder_3 (by decide) (fun c_3 => ?_) (fun c_3 => ?_)
          · exact absurd c_3 (by decide)
          · have c_3 := nc_nlt (a := 1) (b := 0) c_3 (by omega) (by omega)
            refine lv_aload_n hx hb dX4_highestOrder_6 rfl (lv_at hl 1 rfl) ?_
            refine my_get X hK in_X4_highestOrder_X4 hP 0 rfl rfl 0 (by decide) (List.mem_of_getElem? (i := 1) rfl) rfl dX4_highestOrder_7 ?_
            refine lv_iload_n hx hb dX4_highestOrder_10 rfl (lv_at hl 0 rfl) ?_
            refine my_lald (k := 1) hx hb hK hP 1 rfl (rfl) (by omega) (by omega) dX4_highestOrder_11 ?_
            refine lv_lconst (v := 0) hx hb dX4_highestOrder_12 (by decide) ?_
            refine my_lif_le (tgt := 19) hx hb dX4_highestOrder_13 dX4_highestOrder_14 (by decide) (fun c_13xx => ?_) (fun c_13xx => ?_)
            · refine lv_iinc (v := nI 0) (lv' := [(1, .int (nI 0)), (0, .ref su)]) hx hb dX4_highestOrder_19 hl (k := 0) rfl (by decide) (by decide) rfl (fun ls hl => ?_)
              refine lv_goto (tgt := 2) hx hb dX4_highestOrder_22 (by decide) ?_
              refine lv_iload_n hx hb dX4_highestOrder_2 rfl (lv_at hl 0 rfl) ?_
              refine lv_if_lt (tgt := 25) hx hb dX4_highestOrder_3 (by decide) (fun c_3 => ?_) (fun c_3 => ?_)
              · exact absurd c_3 (by decide)
              · have c_3 := nc_nlt (a := 0) (b := 0) c_3 (by omega) (by omega)
                refine lv_aload_n hx hb dX4_highestOrder_6 rfl (lv_at hl 1 rfl) ?_
                refine my_get X hK in_X4_highestOrder_X4 hP 0 rfl rfl 0 (by decide) (List.mem_of_getElem? (i := 1) rfl) rfl dX4_highestOrder_7 ?_
                refine lv_iload_n hx hb dX4_highestOrder_10 rfl (lv_at hl 0 rfl) ?_
                refine my_lald (k := 0) hx hb hK hP 1 rfl (rfl) (by omega) (by omega) dX4_highestOrder_11 ?_
                refine lv_lconst (v := 0) hx hb dX4_highestOrder_12 (by decide) ?_
                refine my_lif_le (tgt := 19) hx hb dX4_highestOrder_13 dX4_highestOrder_14 (by decide) (fun c_13xxx => ?_) (fun c_13xxx => ?_)
                · refine lv_iinc (v := (-1)) (lv' := [(1, .int (-1)), (0, .ref su)]) hx hb dX4_highestOrder_19 hl (k := 0) rfl (by decide) (by decide) rfl (fun ls hl => ?_)
                  refine lv_goto (tgt := 2) hx hb dX4_highestOrder_22 (by decide) ?_
                  refine lv_iload_n hx hb dX4_highestOrder_2 rfl (lv_at hl 0 rfl) ?_
                  refine lv_if_lt (tgt := 25) hx hb dX4_highestOrder_3 (by decide) (fun c_3 => ?_) (fun c_3 => ?_)
                  · refine lv_iconst (v := (-1)) hx hb dX4_highestOrder_25 (by decide) ?_
                    exact my_iretR X (by simp [hiO, nI, c_13, c_13x, c_13xx, c_13xxx] <;> rfl) dX4_highestOrder_26
                  · exact absurd c_3 (by decide)
                · refine lv_iload_n hx hb dX4_highestOrder_17 rfl (lv_at hl 0 rfl) ?_
                  exact my_iretR X (by simp [hiO, nI, c_13, c_13x, c_13xx, c_13xxx] <;> rfl) dX4_highestOrder_18
            · refine lv_iload_n hx hb dX4_highestOrder_17 rfl (lv_at hl 0 rfl) ?_
              exact my_iretR X (by simp [hiO, nI, c_13, c_13x, c_13xx] <;> rfl) dX4_highestOrder_18
        · refine lv_iload_n hx hb dX4_highestOrder_17 rfl (lv_at hl 0 rfl) ?_
          exact my_iretR X (by simp [hiO, nI, c_13, c_13x] <;> rfl) dX4_highestOrder_18
    · refine lv_iload_n hx hb dX4_highestOrder_17 rfl (lv_at hl 0 rfl) ?_
      exact my_iretR X (by simp [hiO, nI, c_13] <;> rfl) dX4_highestOrder_18
theorem in_X4_areSizes_X4 : ∀ w ∈ wsX40, w ∈ wsX4_areSizes := fun _ h => List.mem_cons_of_mem _ (List.mem_append_right _ h)
set_option maxHeartbeats 200000 in
set_option maxRecDepth 100000 in
theorem c_areSizes (l : Launch) (dC : Nat → ClassId) (dI : Nat → Nat → Nat) (cI cJ cO : ClassId) (su : Nat) (sa : Nat) (g : Nat → Int64) (z : Int64) (al : Int64) (dp : Int64) (wd : Int64) (lim : Int32)  : Met l yX4_areSizes wsX4_areSizes ({ frames := 1, cells := 0, slots := 0, locals := 30 }) (va_Pc [.ref su] (PR dC dI cI cJ cO [(su, .inr (4, [.ref sa, .long z, .long al, .long dp, .long wd, .int lim])), (sa, .inl (cJ, 4, .inr (.inl g)))])) (vp_Si (fun r : Int32 => r = arS g (al - dp) z wd)) 0 0 (fun _ => False) := by
  refine my_met (ws := wsX4_areSizes) (cc := cX4_areSizes) (maxL := 2) (ret := (some .boolean)) (by decide) rfl (Nat.le_of_ble_eq_true rfl) ?_
  intro p e s m below meth c ls X hl hv
  obtain ⟨hP, hK⟩ := hv
  obtain ⟨hx, hb, hr, hml, hown, hts, hlocks, hnm⟩ := id X
  have hl : lv_has ls 2 [(0, .ref su)] := hl
  refine lv_iconst (v := 0) hx hb dX4_areSizes_0 (by decide) ?_
  refine lv_istore_n (lv' := [(1, .int 0), (0, .ref su)]) hx hb dX4_areSizes_1 rfl hl (by decide) rfl (fun ls hl => ?_)
  refine lv_iload_n hx hb dX4_areSizes_2 rfl (lv_at hl 0 rfl) ?_
  refine lv_iconst (v := 4) hx hb dX4_areSizes_3 (by decide) ?_
  refine lv_icmp_ge (tgt := 27) hx hb dX4_areSizes_4 (by decide) (fun c_4 => ?_) (fun c_4 => ?_)
  · exact absurd c_4 (by decide)
  · have c_4 := nc_nle (a := 4) (b := 0) c_4 (by omega) (by omega)
    refine lv_aload_n hx hb dX4_areSizes_7 rfl (lv_at hl 1 rfl) ?_
    refine my_get X hK in_X4_areSizes_X4 hP 0 rfl rfl 0 (by decide) (List.mem_of_getElem? (i := 1) rfl) rfl dX4_areSizes_8 ?_
    refine lv_iload_n hx hb dX4_areSizes_11 rfl (lv_at hl 0 rfl) ?_
    refine my_lald (k := 0) hx hb hK hP 1 rfl (rfl) (by omega) (by omega) dX4_areSizes_12 ?_
    have hPc := hP.sub (ws' := []) [] rfl
    refine my_rdi (my_runSN (n := 1) (As := [.long (g 0)]) (rest := []) X hK PR.blind (PR.pre hPc hK) (c_isSize l dC dI cI cJ cO (g 0) ) gX4_areSizes_X5_isSize_n60 rfl rfl rfl 7 rfl (List.mem_of_getElem? (i := 5) rfl) (List.mem_of_getElem? (i := 4) rfl) (by decide +kernel) rfl ⟨Nat.le_of_ble_eq_true rfl, Nat.le_of_ble_eq_true rfl⟩ hl.1 rfl (Nat.le_of_ble_eq_true rfl) dX4_areSizes_13 ⟨by first | decide | omega | (dsimp only; omega), by first | decide | omega | (dsimp only; omega)⟩) (fun r_1 hr_1 => ?_)
    subst hr_1
    refine lv_if_ne (tgt := 21) hx hb dX4_areSizes_16 (by decide) (fun c_16 => ?_) (fun c_16 => ?_)
    · have c_16 := b01n (szL_01 (g 0)) c_16
      refine lv_iinc (v := nI 1) (lv' := [(1, .int (nI 1)), (0, .ref su)]) hx hb dX4_areSizes_21 hl (k := 0) rfl (by decide) (by decide) rfl (fun ls hl => ?_)
      refine lv_goto (tgt := 2) hx hb dX4_areSizes_24 (by decide) ?_
      refine lv_iload_n hx hb dX4_areSizes_2 rfl (lv_at hl 0 rfl) ?_
      refine lv_iconst (v := 4) hx hb dX4_areSizes_3 (by decide) ?_
      refine lv_icmp_ge (tgt := 27) hx hb dX4_areSizes_4 (by decide) (fun c_4 => ?_) (fun c_4 => ?_)
      · exact absurd c_4 (by decide)
      · have c_4 := nc_nle (a := 4) (b := 1) c_4 (by omega) (by omega)
        refine lv_aload_n hx hb dX4_areSizes_7 rfl (lv_at hl 1 rfl) ?_
        refine my_get X hK in_X4_areSizes_X4 hP 0 rfl rfl 0 (by decide) (List.mem_of_getElem? (i := 1) rfl) rfl dX4_areSizes_8 ?_
        refine lv_iload_n hx hb dX4_areSizes_11 rfl (lv_at hl 0 rfl) ?_
        refine my_lald (k := 1) hx hb hK hP 1 rfl (rfl) (by omega) (by omega) dX4_areSizes_12 ?_
        have hPc := hP.sub (ws' := []) [] rfl
        refine my_rdi (my_runSN (n := 1) (As := [.long (g 1)]) (rest := []) X hK PR.blind (PR.pre hPc hK) (c_isSize l dC dI cI cJ cO (g 1) ) gX4_areSizes_X5_isSize_n60 rfl rfl rfl 7 rfl (List.mem_of_getElem? (i := 5) rfl) (List.mem_of_getElem? (i := 4) rfl) (by decide +kernel) rfl ⟨Nat.le_of_ble_eq_true rfl, Nat.le_of_ble_eq_true rfl⟩ hl.1 rfl (Nat.le_of_ble_eq_true rfl) dX4_areSizes_13 ⟨by first | decide | omega | (dsimp only; omega), by first | decide | omega | (dsimp only; omega)⟩) (fun r_2 hr_2 => ?_)
        subst hr_2
        refine lv_if_ne (tgt := 21) hx hb dX4_areSizes_16 (by decide) (fun c_16x => ?_) (fun c_16x => ?_)
        · have c_16x := b01n (szL_01 (g 1)) c_16x
          refine lv_iinc (v := nI 2) (lv' := [(1, .int (nI 2)), (0, .ref su)]) hx hb dX4_areSizes_21 hl (k := 0) rfl (by decide) (by decide) rfl (fun ls hl => ?_)
          refine lv_goto (tgt := 2) hx hb dX4_areSizes_24 (by decide) ?_
          refine lv_iload_n hx hb dX4_areSizes_2 rfl (lv_at hl 0 rfl) ?_
          refine lv_iconst (v := 4) hx hb dX4_areSizes_3 (by decide) ?_
          refine lv_icmp_ge (tgt := 27) hx hb dX4_areSizes_4 (by decide) (fun c_4 => ?_) (fun c_4 => ?_)
          · exact absurd c_4 (by decide)
          · have c_4 := nc_nle (a := 4) (b := 2) c_4 (by omega) (by omega)
            refine lv_aload_n hx hb dX4_areSizes_7 rfl (lv_at hl 1 rfl) ?_
            refine my_get X hK in_X4_areSizes_X4 hP 0 rfl rfl 0 (by decide) (List.mem_of_getElem? (i := 1) rfl) rfl dX4_areSizes_8 ?_
            refine lv_iload_n hx hb dX4_areSizes_11 rfl (lv_at hl 0 rfl) ?_
            refine my_lald (k := 2) hx hb hK hP 1 rfl (rfl) (by omega) (by omega) dX4_areSizes_12 ?_
            have hPc := hP.sub (ws' := []) [] rfl
            refine my_rdi (my_runSN (n := 1) (As := [.long (g 2)]) (rest := []) X hK PR.blind (PR.pre hPc hK) (c_isSize l dC dI cI cJ cO (g 2) ) gX4_areSizes_X5_isSize_n60 rfl rfl rfl 7 rfl (List.mem_of_getElem? (i := 5) rfl) (List.mem_of_getElem? (i := 4) rfl) (by decide +kernel) rfl ⟨Nat.le_of_ble_eq_true rfl, Nat.le_of_ble_eq_true rfl⟩ hl.1 rfl (Nat.le_of_ble_eq_true rfl) dX4_areSizes_13 ⟨by first | decide | omega | (dsimp only; omega), by first | decide | omega | (dsimp only; omega)⟩) (fun r_3 hr_3 => ?_)
            subst hr_3
            refine lv_if_ne (tgt := 21) hx hb dX4_areSizes_16 (by decide) (fun c_16xx => ?_) (fun c_16xx => ?_)
            · have c_16xx := b01n (szL_01 (g 2)) c_16xx
              refine lv_iinc (v := nI 3) (lv' := [(1, .int (nI 3)), (0, .ref su)]) hx hb dX4_areSizes_21 hl (k := 0) rfl (by decide) (by decide) rfl (fun ls hl => ?_)
              refine lv_goto (tgt := 2) hx hb dX4_areSizes_24 (by decide) ?_
              refine lv_iload_n hx hb dX4_areSizes_2 rfl (lv_at hl 0 rfl) ?_
              refine lv_iconst (v := 4) hx hb dX4_areSizes_3 (by decide) ?_
              refine lv_icmp_ge (tgt := 27) hx hb dX4_areSizes_4 (by decide) (fun c_4 => ?_) (fun c_4 => ?_)
              · exact absurd c_4 (by decide)
              · have c_4 := nc_nle (a := 4) (b := 3) c_4 (by omega) (by omega)
                refine lv_aload_n hx hb dX4_areSizes_7 rfl (lv_at hl 1 rfl) ?_
                refine my_get X hK in_X4_areSizes_X4 hP 0 rfl rfl 0 (by decide) (List.mem_of_getElem? (i := 1) rfl) rfl dX4_areSizes_8 ?_
                refine lv_iload_n hx hb dX4_areSizes_11 rfl (lv_at hl 0 rfl) ?_
                refine my_lald (k := 3) hx hb hK hP 1 rfl (rfl) (by omega) (by omega) dX4_areSizes_12 ?_
                have hPc := hP.sub (ws' := []) [] rfl
                refine my_rdi (my_runSN (n := 1) (As := [.long (g 3)]) (rest := []) X hK PR.blind (PR.pre hPc hK) (c_isSize l dC dI cI cJ cO (g 3) ) gX4_areSizes_X5_isSize_n60 rfl rfl rfl 7 rfl (List.mem_of_getElem? (i := 5) rfl) (List.mem_of_getElem? (i := 4) rfl) (by decide +kernel) rfl ⟨Nat.le_of_ble_eq_true rfl, Nat.le_of_ble_eq_true rfl⟩ hl.1 rfl (Nat.le_of_ble_eq_true rfl) dX4_areSizes_13 ⟨by first | decide | omega | (dsimp only; omega), by first | decide | omega | (dsimp only; omega)⟩) (fun r_4 hr_4 => ?_)
                subst hr_4
                refine lv_if_ne (tgt := 21) hx hb dX4_areSizes_16 (by decide) (fun c_16xxx => ?_) (fun c_16xxx => ?_)
                · have c_16xxx := b01n (szL_01 (g 3)) c_16xxx
                  refine lv_iinc (v := nI 4) (lv' := [(1, .int (nI 4)), (0, .ref su)]) hx hb dX4_areSizes_21 hl (k := 0) rfl (by decide) (by decide) rfl (fun ls hl => ?_)
                  refine lv_goto (tgt := 2) hx hb dX4_areSizes_24 (by decide) ?_
                  refine lv_iload_n hx hb dX4_areSizes_2 rfl (lv_at hl 0 rfl) ?_
                  refine lv_iconst (v := 4) hx hb dX4_areSizes_3 (by decide) ?_
                  refine lv_icmp_ge (tgt := 27) hx hb dX4_areSizes_4 (by decide) (fun c_4 => ?_) (fun c_4 => ?_)
                  · have c_4 := nc_le (a := 4) (b := 4) c_4 (by omega) (by omega)
                    refine lv_aload_n hx hb dX4_areSizes_27 rfl (lv_at hl 1 rfl) ?_
                    have hPc := hP.sub (ws' := [(su, .inr (4, [.ref sa, .long z, .long al, .long dp, .long wd, .int lim])), (sa, .inl (cJ, 4, .inr (.inl g)))]) [0, 1] rfl
                    refine my_rdl (my_runV (n := 0) (As := []) (rest := []) (C := RX4) X PR.blind (PR.pre hPc hK) (va_recv hK.1 hPc (ci := 4) (q0 := 0) rfl rfl) (c_total l dC dI cI cJ cO su sa g z al dp wd lim ) gX4_areSizes_X4_total rfl rfl rfl (by decide +kernel) rfl ⟨Nat.le_of_ble_eq_true rfl, Nat.le_of_ble_eq_true rfl⟩ hl.1 rfl (Nat.le_of_ble_eq_true rfl) dX4_areSizes_28 ⟨by first | decide | omega | (dsimp only; omega), by first | decide | omega | (dsimp only; omega)⟩) (fun r_5 hr_5 => ?_)
                    subst hr_5
                    have hPc := hP.sub (ws' := []) [] rfl
                    refine my_rdi (my_runSN (n := 1) (As := [.long (al - dp)]) (rest := []) X hK PR.blind (PR.pre hPc hK) (c_isSize l dC dI cI cJ cO (al - dp) ) gX4_areSizes_X5_isSize_n60 rfl rfl rfl 7 rfl (List.mem_of_getElem? (i := 5) rfl) (List.mem_of_getElem? (i := 4) rfl) (by decide +kernel) rfl ⟨Nat.le_of_ble_eq_true rfl, Nat.le_of_ble_eq_true rfl⟩ hl.1 rfl (Nat.le_of_ble_eq_true rfl) dX4_areSizes_31 ⟨by first | decide | omega | (dsimp only; omega), by first | decide | omega | (dsimp only; omega)⟩) (fun r_6 hr_6 => ?_)
                    subst hr_6
                    refine lv_if_eq (tgt := 61) hx hb dX4_areSizes_34 (by decide) (fun c_34 => ?_) (fun c_34 => ?_)
                    · refine lv_iconst (v := 0) hx hb dX4_areSizes_61 (by decide) ?_
                      exact my_zretR X rfl (by simp [arS, c_16, c_16x, c_16xx, c_16xxx, c_34]) dX4_areSizes_62
                    · have c_34 := b01n (szL_01 (al - dp)) c_34
                      refine lv_aload_n hx hb dX4_areSizes_37 rfl (lv_at hl 1 rfl) ?_
                      refine my_get X hK in_X4_areSizes_X4 hP 0 rfl rfl 1 (by decide) (List.mem_of_getElem? (i := 2) rfl) rfl dX4_areSizes_38 ?_
                      have hPc := hP.sub (ws' := []) [] rfl
                      refine my_rdi (my_runSN (n := 1) (As := [.long z]) (rest := []) X hK PR.blind (PR.pre hPc hK) (c_isSize l dC dI cI cJ cO z ) gX4_areSizes_X5_isSize_n60 rfl rfl rfl 7 rfl (List.mem_of_getElem? (i := 5) rfl) (List.mem_of_getElem? (i := 4) rfl) (by decide +kernel) rfl ⟨Nat.le_of_ble_eq_true rfl, Nat.le_of_ble_eq_true rfl⟩ hl.1 rfl (Nat.le_of_ble_eq_true rfl) dX4_areSizes_41 ⟨by first | decide | omega | (dsimp only; omega), by first | decide | omega | (dsimp only; omega)⟩) (fun r_7 hr_7 => ?_)
                      subst hr_7
                      refine lv_if_eq (tgt := 61) hx hb dX4_areSizes_44 (by decide) (fun c_44 => ?_) (fun c_44 => ?_)
                      · refine lv_iconst (v := 0) hx hb dX4_areSizes_61 (by decide) ?_
                        exact my_zretR X rfl (by simp [arS, c_16, c_16x, c_16xx, c_16xxx, c_34, c_44]) dX4_areSizes_62
                      · have c_44 := b01n (szL_01 z) c_44
                        refine lv_aload_n hx hb dX4_areSizes_47 rfl (lv_at hl 1 rfl) ?_
                        refine my_get X hK in_X4_areSizes_X4 hP 0 rfl rfl 4 (by decide) (List.mem_of_getElem? (i := 3) rfl) rfl dX4_areSizes_48 ?_
                        have hPc := hP.sub (ws' := []) [] rfl
                        refine my_rdi (my_runSN (n := 1) (As := [.long wd]) (rest := []) X hK PR.blind (PR.pre hPc hK) (c_isSize l dC dI cI cJ cO wd ) gX4_areSizes_X5_isSize_n60 rfl rfl rfl 7 rfl (List.mem_of_getElem? (i := 5) rfl) (List.mem_of_getElem? (i := 4) rfl) (by decide +kernel) rfl ⟨Nat.le_of_ble_eq_true rfl, Nat.le_of_ble_eq_true rfl⟩ hl.1 rfl (Nat.le_of_ble_eq_true rfl) dX4_areSizes_51 ⟨by first | decide | omega | (dsimp only; omega), by first | decide | omega | (dsimp only; omega)⟩) (fun r_8 hr_8 => ?_)
                        subst hr_8
                        refine lv_if_eq (tgt := 61) hx hb dX4_areSizes_54 (by decide) (fun c_54 => ?_) (fun c_54 => ?_)
                        · refine lv_iconst (v := 0) hx hb dX4_areSizes_61 (by decide) ?_
                          exact my_zretR X rfl (by simp [arS, c_16, c_16x, c_16xx, c_16xxx, c_34, c_44, c_54]) dX4_areSizes_62
                        · have c_54 := b01n (szL_01 wd) c_54
                          refine lv_iconst (v := 1) hx hb dX4_areSizes_57 (by decide) ?_
                          refine lv_goto (tgt := 62) hx hb dX4_areSizes_58 (by decide) ?_
                          exact my_zretR X rfl (by simp [arS, c_16, c_16x, c_16xx, c_16xxx, c_34, c_44, c_54]) dX4_areSizes_62
                  · exact absurd c_4 (by decide)
                · refine lv_iconst (v := 0) hx hb dX4_areSizes_19 (by decide) ?_
                  exact my_zretR X rfl (by simp [arS, c_16, c_16x, c_16xx, c_16xxx]) dX4_areSizes_20
            · refine lv_iconst (v := 0) hx hb dX4_areSizes_19 (by decide) ?_
              exact my_zretR X rfl (by simp [arS, c_16, c_16x, c_16xx]) dX4_areSizes_20
        · refine lv_iconst (v := 0) hx hb dX4_areSizes_19 (by decide) ?_
          exact my_zretR X rfl (by simp [arS, c_16, c_16x]) dX4_areSizes_20
    · refine lv_iconst (v := 0) hx hb dX4_areSizes_19 (by decide) ?_
      exact my_zretR X rfl (by simp [arS, c_16]) dX4_areSizes_20
theorem in_X4_takeGlue_X4 : ∀ w ∈ wsX40, w ∈ wsX4_takeGlue := fun _ h => List.mem_cons_of_mem _ (List.mem_append_left _ (List.mem_append_right _ h))
set_option maxHeartbeats 200000 in
set_option maxRecDepth 100000 in
theorem c_takeGlue (l : Launch) (dC : Nat → ClassId) (dI : Nat → Nat → Nat) (cI cJ cO : ClassId) (hz : Nat) (su : Nat) (sa : Nat) (g : Nat → Int64) (z : Int64) (al : Int64) (dp : Int64) (wd : Int64) (lim : Int32) (o : Nat) (ar : Nat) (cap : Nat) (f : Nat → Int32) (sz : Nat) (k : Nat) (hk : k < sz) (hsz : sz ≤ cap) (hcap : cap ≤ 4001) : Met l yX4_takeGlue wsX4_takeGlue ({ frames := 1, cells := 0, slots := 0, locals := 30 }) (va_Pc [.ref su, .ref o, .int (nI k)] (PW dC dI cI cJ cO [(su, .inr (4, [.ref sa, .long z, .long al, .long dp, .long wd, .int lim])), (sa, .inl (cJ, 4, .inr (.inl g))), (o, .inr (0, [.ref ar, .int (nI sz)])), (ar, .inl (cI, (cap * 8), .inl f))] hz)) (va_Qv (fun g1 : Nat → Int64 => g1 = tkG g (fun j => f (k * 8 + j))) (fun (g1 : Nat → Int64) t9 => BW dC dI (va_A [(su, .inr (4, [.ref sa, .long z, .long al, .long dp, .long wd, .int lim])), (sa, .inl (cJ, 4, .inr (.inl g))), (o, .inr (0, [.ref ar, .int (nI sz)])), (ar, .inl (cI, (cap * 8), .inl f))] hz) [(su, .inr (4, [.ref sa, .long (z + (f (k * 8 + 7)).toInt64), .long (al + (f (k * 8 + 1)).toInt64), .long dp, .long wd, .int lim])), (sa, .inl (cJ, 4, .inr (.inl g1))), (o, .inr (0, [.ref ar, .int (nI sz)])), (ar, .inl (cI, (cap * 8), .inl f))] t9) (va_A [(su, .inr (4, [.ref sa, .long z, .long al, .long dp, .long wd, .int lim])), (sa, .inl (cJ, 4, .inr (.inl g))), (o, .inr (0, [.ref ar, .int (nI sz)])), (ar, .inl (cI, (cap * 8), .inl f))] hz)) 0 0 (va_A [(su, .inr (4, [.ref sa, .long z, .long al, .long dp, .long wd, .int lim])), (sa, .inl (cJ, 4, .inr (.inl g))), (o, .inr (0, [.ref ar, .int (nI sz)])), (ar, .inl (cI, (cap * 8), .inl f))] hz) := by
  refine my_metW (ws := wsX4_takeGlue) (cc := cX4_takeGlue) (maxL := 4) (ret := none) (Qc := fun A => va_Qv (fun g1 : Nat → Int64 => g1 = tkG g (fun j => f (k * 8 + j))) (fun (g1 : Nat → Int64) t9 => BW dC dI A [(su, .inr (4, [.ref sa, .long (z + (f (k * 8 + 7)).toInt64), .long (al + (f (k * 8 + 1)).toInt64), .long dp, .long wd, .int lim])), (sa, .inl (cJ, 4, .inr (.inl g1))), (o, .inr (0, [.ref ar, .int (nI sz)])), (ar, .inl (cI, (cap * 8), .inl f))] t9) A) (by decide) rfl (Nat.le_of_ble_eq_true rfl) ?_
  intro p e s m below meth c ls A X hl hK hA hP hD hS
  obtain ⟨hx, hb, hr, hml, hown, hts, hlocks, hnm⟩ := id X
  have hl : lv_has ls 4 [(0, .ref su), (1, .ref o), (2, .int (nI k))] := hl
  refine lv_aload_n hx hb dX4_takeGlue_0 rfl (lv_at hl 0 rfl) ?_
  refine lv_dup hx hb dX4_takeGlue_1 rfl ?_
  refine my_get X hK in_X4_takeGlue_X4 hP 0 rfl rfl 2 (by decide) (List.mem_of_getElem? (i := 1) rfl) rfl dX4_takeGlue_2 ?_
  refine lv_aload_n hx hb dX4_takeGlue_5 rfl (lv_at hl 1 rfl) ?_
  refine lv_iload_n hx hb dX4_takeGlue_6 rfl (lv_at hl 2 rfl) ?_
  refine lv_iconst (v := 1) hx hb dX4_takeGlue_7 (by decide) ?_
  have hPc := hP.sub (ws' := [(o, .inr (0, [.ref ar, .int (nI sz)])), (ar, .inl (cI, (cap * 8), .inl f))]) [2, 3] rfl
  refine my_rdi (my_runV (n := 2) (As := [.int (nI k), .int 1]) (rest := [.long al, .ref su]) (C := RX0) X PR.blind (PR.pre hPc hK) (va_recv hK.1 hPc (ci := 0) (q0 := 0) rfl rfl) (c_at l dC dI cI cJ cO o ar cap f sz k 1 (by omega) (by omega) (by omega) (by omega)) gX4_takeGlue_X0_at rfl rfl rfl (by decide +kernel) rfl ⟨Nat.le_of_ble_eq_true rfl, Nat.le_of_ble_eq_true rfl⟩ hl.1 rfl (Nat.le_of_ble_eq_true rfl) dX4_takeGlue_8 ⟨by first | decide | omega | (dsimp only; omega), by first | decide | omega | (dsimp only; omega)⟩) (fun r_1 hr_1 => ?_)
  subst hr_1
  refine lv_i2l (v := (f (k * 8 + 1)).toInt64) hx hb dX4_takeGlue_11 rfl ?_
  refine lv_ladd hx hb dX4_takeGlue_12 ?_
  refine my_put X hK in_X4_takeGlue_X4 tyX4 tyX4_ok nmX4 hP hD hS 0 rfl rfl 2 (by decide) (List.mem_of_getElem? (i := 1) rfl) rfl rfl rfl (Nat.le_of_ble_eq_true rfl) dX4_takeGlue_13 (fun H locs hP hD hS => ?_)
  have hP : va_P (dC, dI) vwCl ([(su, .inr (4, [.ref sa, .long z, .long (al + ((f (k * 8 + 1)).toInt64)), .long dp, .long wd, .int lim])), (sa, .inl (cJ, 4, .inr (.inl g))), (o, .inr (0, [.ref ar, .int (nI sz)])), (ar, .inl (cI, (cap * 8), .inl f))]) H := hP
  have hD : va_D A ([(su, .inr (4, [.ref sa, .long z, .long (al + ((f (k * 8 + 1)).toInt64)), .long dp, .long wd, .int lim])), (sa, .inl (cJ, 4, .inr (.inl g))), (o, .inr (0, [.ref ar, .int (nI sz)])), (ar, .inl (cI, (cap * 8), .inl f))]) := hD
  refine lv_aload_n hx hb dX4_takeGlue_16 rfl (lv_at hl 0 rfl) ?_
  refine lv_dup hx hb dX4_takeGlue_17 rfl ?_
  refine my_get X hK in_X4_takeGlue_X4 hP 0 rfl rfl 1 (by decide) (List.mem_of_getElem? (i := 2) rfl) rfl dX4_takeGlue_18 ?_
  refine lv_aload_n hx hb dX4_takeGlue_21 rfl (lv_at hl 1 rfl) ?_
  refine lv_iload_n hx hb dX4_takeGlue_22 rfl (lv_at hl 2 rfl) ?_
  refine lv_bipush (v := 7) hx hb dX4_takeGlue_23 (by decide) ?_
  have hPc := hP.sub (ws' := [(o, .inr (0, [.ref ar, .int (nI sz)])), (ar, .inl (cI, (cap * 8), .inl f))]) [2, 3] rfl
  refine my_rdi (my_runV (n := 2) (As := [.int (nI k), .int 7]) (rest := [.long z, .ref su]) (C := RX0) X PR.blind (PR.pre hPc hK) (va_recv hK.1 hPc (ci := 0) (q0 := 0) rfl rfl) (c_at l dC dI cI cJ cO o ar cap f sz k 7 (by omega) (by omega) (by omega) (by omega)) gX4_takeGlue_X0_at rfl rfl rfl (by decide +kernel) rfl ⟨Nat.le_of_ble_eq_true rfl, Nat.le_of_ble_eq_true rfl⟩ hl.1 rfl (Nat.le_of_ble_eq_true rfl) dX4_takeGlue_25 ⟨by first | decide | omega | (dsimp only; omega), by first | decide | omega | (dsimp only; omega)⟩) (fun r_2 hr_2 => ?_)
  subst hr_2
  refine lv_i2l (v := (f (k * 8 + 7)).toInt64) hx hb dX4_takeGlue_28 rfl ?_
  refine lv_ladd hx hb dX4_takeGlue_29 ?_
  refine my_put X hK in_X4_takeGlue_X4 tyX4 tyX4_ok nmX4 hP hD hS 0 rfl rfl 1 (by decide) (List.mem_of_getElem? (i := 2) rfl) rfl rfl rfl (Nat.le_of_ble_eq_true rfl) dX4_takeGlue_30 (fun H locs hP hD hS => ?_)
  have hP : va_P (dC, dI) vwCl ([(su, .inr (4, [.ref sa, .long (z + ((f (k * 8 + 7)).toInt64)), .long (al + ((f (k * 8 + 1)).toInt64)), .long dp, .long wd, .int lim])), (sa, .inl (cJ, 4, .inr (.inl g))), (o, .inr (0, [.ref ar, .int (nI sz)])), (ar, .inl (cI, (cap * 8), .inl f))]) H := hP
  have hD : va_D A ([(su, .inr (4, [.ref sa, .long (z + ((f (k * 8 + 7)).toInt64)), .long (al + ((f (k * 8 + 1)).toInt64)), .long dp, .long wd, .int lim])), (sa, .inl (cJ, 4, .inr (.inl g))), (o, .inr (0, [.ref ar, .int (nI sz)])), (ar, .inl (cI, (cap * 8), .inl f))]) := hD
  refine lv_aload_n hx hb dX4_takeGlue_33 rfl (lv_at hl 1 rfl) ?_
  refine lv_iload_n hx hb dX4_takeGlue_34 rfl (lv_at hl 2 rfl) ?_
  refine lv_bipush (v := 6) hx hb dX4_takeGlue_35 (by decide) ?_
  have hPc := hP.sub (ws' := [(o, .inr (0, [.ref ar, .int (nI sz)])), (ar, .inl (cI, (cap * 8), .inl f))]) [2, 3] rfl
  refine my_rdi (my_runV (n := 2) (As := [.int (nI k), .int 6]) (rest := []) (C := RX0) X PR.blind (PR.pre hPc hK) (va_recv hK.1 hPc (ci := 0) (q0 := 0) rfl rfl) (c_at l dC dI cI cJ cO o ar cap f sz k 6 (by omega) (by omega) (by omega) (by omega)) gX4_takeGlue_X0_at rfl rfl rfl (by decide +kernel) rfl ⟨Nat.le_of_ble_eq_true rfl, Nat.le_of_ble_eq_true rfl⟩ hl.1 rfl (Nat.le_of_ble_eq_true rfl) dX4_takeGlue_37 ⟨by first | decide | omega | (dsimp only; omega), by first | decide | omega | (dsimp only; omega)⟩) (fun r_3 hr_3 => ?_)
  subst hr_3
  refine lv_istore_n (lv' := [(3, .int (f (k * 8 + 6))), (0, .ref su), (1, .ref o), (2, .int (nI k))]) hx hb dX4_takeGlue_40 rfl hl (by decide) rfl (fun ls hl => ?_)
  refine lv_iload_n hx hb dX4_takeGlue_41 rfl (lv_at hl 0 rfl) ?_
  refine lv_if_lt (tgt := 66) hx hb dX4_takeGlue_42 (by decide) (fun c_42 => ?_) (fun c_42 => ?_)
  · exact my_vret (WSf := (fun g1 : Nat → Int64 => [(su, .inr (4, [.ref sa, .long (z + (f (k * 8 + 7)).toInt64), .long (al + (f (k * 8 + 1)).toInt64), .long dp, .long wd, .int lim])), (sa, .inl (cJ, 4, .inr (.inl g1))), (o, .inr (0, [.ref ar, .int (nI sz)])), (ar, .inl (cI, (cap * 8), .inl f))])) g X (by simp [tkG, c_42]) (hP) (hD) hS (by first | decide | omega | (dsimp only; omega)) (by first | decide | omega | (dsimp only; omega)) dX4_takeGlue_66
  · refine lv_iload_n hx hb dX4_takeGlue_45 rfl (lv_at hl 0 rfl) ?_
    refine lv_iconst (v := 4) hx hb dX4_takeGlue_46 (by decide) ?_
    refine lv_icmp_ge (tgt := 66) hx hb dX4_takeGlue_47 (by decide) (fun c_47 => ?_) (fun c_47 => ?_)
    · exact my_vret (WSf := (fun g1 : Nat → Int64 => [(su, .inr (4, [.ref sa, .long (z + (f (k * 8 + 7)).toInt64), .long (al + (f (k * 8 + 1)).toInt64), .long dp, .long wd, .int lim])), (sa, .inl (cJ, 4, .inr (.inl g1))), (o, .inr (0, [.ref ar, .int (nI sz)])), (ar, .inl (cI, (cap * 8), .inl f))])) g X (by simp [tkG, c_42, c_47]) (hP) (hD) hS (by first | decide | omega | (dsimp only; omega)) (by first | decide | omega | (dsimp only; omega)) dX4_takeGlue_66
    · obtain ⟨jo, hjo, ejo⟩ := ix4 c_42 c_47
      rw [ejo] at hl
      refine lv_aload_n hx hb dX4_takeGlue_50 rfl (lv_at hl 1 rfl) ?_
      refine my_get X hK in_X4_takeGlue_X4 hP 0 rfl rfl 0 (by decide) (List.mem_of_getElem? (i := 3) rfl) rfl dX4_takeGlue_51 ?_
      refine lv_iload_n hx hb dX4_takeGlue_54 rfl (lv_at hl 0 rfl) ?_
      refine lv_dup2_11 hx hb dX4_takeGlue_55 rfl rfl ?_
      refine my_lald (k := jo) hx hb hK hP 1 rfl (rfl) (by omega) (by omega) dX4_takeGlue_56 ?_
      refine lv_aload_n hx hb dX4_takeGlue_57 rfl (lv_at hl 2 rfl) ?_
      refine lv_iload_n hx hb dX4_takeGlue_58 rfl (lv_at hl 3 rfl) ?_
      refine lv_iconst (v := 5) hx hb dX4_takeGlue_59 (by decide) ?_
      have hPc := hP.sub (ws' := [(o, .inr (0, [.ref ar, .int (nI sz)])), (ar, .inl (cI, (cap * 8), .inl f))]) [2, 3] rfl
      refine my_rdi (my_runV (n := 2) (As := [.int (nI k), .int 5]) (rest := [.long (g jo), .int (nI jo), .ref sa]) (C := RX0) X PR.blind (PR.pre hPc hK) (va_recv hK.1 hPc (ci := 0) (q0 := 0) rfl rfl) (c_at l dC dI cI cJ cO o ar cap f sz k 5 (by omega) (by omega) (by omega) (by omega)) gX4_takeGlue_X0_at rfl rfl rfl (by decide +kernel) rfl ⟨Nat.le_of_ble_eq_true rfl, Nat.le_of_ble_eq_true rfl⟩ hl.1 rfl (Nat.le_of_ble_eq_true rfl) dX4_takeGlue_60 ⟨by first | decide | omega | (dsimp only; omega), by first | decide | omega | (dsimp only; omega)⟩) (fun r_4 hr_4 => ?_)
      subst hr_4
      refine lv_i2l (v := (f (k * 8 + 5)).toInt64) hx hb dX4_takeGlue_63 rfl ?_
      refine lv_ladd hx hb dX4_takeGlue_64 ?_
      refine my_last (k := jo) hx hb hK hP hD hS 1 rfl (rfl) (by omega) (by omega) dX4_takeGlue_65 (fun H locs hP hD hS => ?_)
      have hP : va_P (dC, dI) vwCl ([(su, .inr (4, [.ref sa, .long (z + ((f (k * 8 + 7)).toInt64)), .long (al + ((f (k * 8 + 1)).toInt64)), .long dp, .long wd, .int lim])), (sa, .inl (cJ, 4, .inr (.inl (vp_updL g jo ((g jo) + ((f (k * 8 + 5)).toInt64)))))), (o, .inr (0, [.ref ar, .int (nI sz)])), (ar, .inl (cI, (cap * 8), .inl f))]) H := hP
      have hD : va_D A ([(su, .inr (4, [.ref sa, .long (z + ((f (k * 8 + 7)).toInt64)), .long (al + ((f (k * 8 + 1)).toInt64)), .long dp, .long wd, .int lim])), (sa, .inl (cJ, 4, .inr (.inl (vp_updL g jo ((g jo) + ((f (k * 8 + 5)).toInt64)))))), (o, .inr (0, [.ref ar, .int (nI sz)])), (ar, .inl (cI, (cap * 8), .inl f))]) := hD
      exact my_vret (WSf := (fun g1 : Nat → Int64 => [(su, .inr (4, [.ref sa, .long (z + (f (k * 8 + 7)).toInt64), .long (al + (f (k * 8 + 1)).toInt64), .long dp, .long wd, .int lim])), (sa, .inl (cJ, 4, .inr (.inl g1))), (o, .inr (0, [.ref ar, .int (nI sz)])), (ar, .inl (cI, (cap * 8), .inl f))])) (vp_updL g jo ((g jo) + ((f (k * 8 + 5)).toInt64))) X (by simp only [tkG]; rw [ejo, if_pos ⟨nI_pos (by omega), by intro q; exact absurd (nc_le (a := 4) (b := jo) q (by decide) (by omega)) (by omega)⟩, nI_clamp (show jo < 2 ^ 31 by omega)]) (hP) (hD) hS (by first | decide | omega | (dsimp only; omega)) (by first | decide | omega | (dsimp only; omega)) dX4_takeGlue_66
theorem in_X4_takeSolid_X4 : ∀ w ∈ wsX40, w ∈ wsX4_takeSolid := fun _ h => List.mem_cons_of_mem _ (List.mem_append_left _ (List.mem_append_right _ h))
set_option maxHeartbeats 200000 in
set_option maxRecDepth 100000 in
theorem c_takeSolid (l : Launch) (dC : Nat → ClassId) (dI : Nat → Nat → Nat) (cI cJ cO : ClassId) (hz : Nat) (su : Nat) (sa : Nat) (g : Nat → Int64) (z : Int64) (al : Int64) (dp : Int64) (wd : Int64) (lim : Int32) (o : Nat) (ar : Nat) (cap : Nat) (f : Nat → Int32) (sz : Nat) (k : Nat) (hk : k < sz) (hsz : sz ≤ cap) (hcap : cap ≤ 4001) : Met l yX4_takeSolid wsX4_takeSolid ({ frames := 1, cells := 0, slots := 0, locals := 30 }) (va_Pc [.ref su, .ref o, .int (nI k)] (PW dC dI cI cJ cO [(su, .inr (4, [.ref sa, .long z, .long al, .long dp, .long wd, .int lim])), (sa, .inl (cJ, 4, .inr (.inl g))), (o, .inr (0, [.ref ar, .int (nI sz)])), (ar, .inl (cI, (cap * 8), .inl f))] hz)) (va_Qv (fun u : Int64 × Int64 => u.1 = miL (f (k * 8 + 3)).toInt64 lim.toInt64 ∧ u.2 = maL wd ((f (k * 8 + 1)).toInt64 + (f (k * 8 + 4)).toInt64)) (fun (u : Int64 × Int64) t9 => BW dC dI (va_A [(su, .inr (4, [.ref sa, .long z, .long al, .long dp, .long wd, .int lim])), (sa, .inl (cJ, 4, .inr (.inl g))), (o, .inr (0, [.ref ar, .int (nI sz)])), (ar, .inl (cI, (cap * 8), .inl f))] hz) [(su, .inr (4, [.ref sa, .long z, .long (al + ((f (k * 8 + 2)).toInt64 + (f (k * 8 + 3)).toInt64)), .long u.1, .long u.2, .int lim])), (sa, .inl (cJ, 4, .inr (.inl g))), (o, .inr (0, [.ref ar, .int (nI sz)])), (ar, .inl (cI, (cap * 8), .inl f))] t9) (va_A [(su, .inr (4, [.ref sa, .long z, .long al, .long dp, .long wd, .int lim])), (sa, .inl (cJ, 4, .inr (.inl g))), (o, .inr (0, [.ref ar, .int (nI sz)])), (ar, .inl (cI, (cap * 8), .inl f))] hz)) 0 0 (va_A [(su, .inr (4, [.ref sa, .long z, .long al, .long dp, .long wd, .int lim])), (sa, .inl (cJ, 4, .inr (.inl g))), (o, .inr (0, [.ref ar, .int (nI sz)])), (ar, .inl (cI, (cap * 8), .inl f))] hz) := by
  refine my_metW (ws := wsX4_takeSolid) (cc := cX4_takeSolid) (maxL := 5) (ret := none) (Qc := fun A => va_Qv (fun u : Int64 × Int64 => u.1 = miL (f (k * 8 + 3)).toInt64 lim.toInt64 ∧ u.2 = maL wd ((f (k * 8 + 1)).toInt64 + (f (k * 8 + 4)).toInt64)) (fun (u : Int64 × Int64) t9 => BW dC dI A [(su, .inr (4, [.ref sa, .long z, .long (al + ((f (k * 8 + 2)).toInt64 + (f (k * 8 + 3)).toInt64)), .long u.1, .long u.2, .int lim])), (sa, .inl (cJ, 4, .inr (.inl g))), (o, .inr (0, [.ref ar, .int (nI sz)])), (ar, .inl (cI, (cap * 8), .inl f))] t9) A) (by decide) rfl (Nat.le_of_ble_eq_true rfl) ?_
  intro p e s m below meth c ls A X hl hK hA hP hD hS
  obtain ⟨hx, hb, hr, hml, hown, hts, hlocks, hnm⟩ := id X
  have hl : lv_has ls 5 [(0, .ref su), (1, .ref o), (2, .int (nI k))] := hl
  refine lv_aload_n hx hb dX4_takeSolid_0 rfl (lv_at hl 1 rfl) ?_
  refine lv_iload_n hx hb dX4_takeSolid_1 rfl (lv_at hl 2 rfl) ?_
  refine lv_iconst (v := 3) hx hb dX4_takeSolid_2 (by decide) ?_
  have hPc := hP.sub (ws' := [(o, .inr (0, [.ref ar, .int (nI sz)])), (ar, .inl (cI, (cap * 8), .inl f))]) [2, 3] rfl
  refine my_rdi (my_runV (n := 2) (As := [.int (nI k), .int 3]) (rest := []) (C := RX0) X PR.blind (PR.pre hPc hK) (va_recv hK.1 hPc (ci := 0) (q0 := 0) rfl rfl) (c_at l dC dI cI cJ cO o ar cap f sz k 3 (by omega) (by omega) (by omega) (by omega)) gX4_takeSolid_X0_at rfl rfl rfl (by decide +kernel) rfl ⟨Nat.le_of_ble_eq_true rfl, Nat.le_of_ble_eq_true rfl⟩ hl.1 rfl (Nat.le_of_ble_eq_true rfl) dX4_takeSolid_3 ⟨by first | decide | omega | (dsimp only; omega), by first | decide | omega | (dsimp only; omega)⟩) (fun r_1 hr_1 => ?_)
  subst hr_1
  refine lv_i2l (v := (f (k * 8 + 3)).toInt64) hx hb dX4_takeSolid_6 rfl ?_
  refine lv_lstore_n (lv' := [(3, .long ((f (k * 8 + 3)).toInt64)), (0, .ref su), (1, .ref o), (2, .int (nI k))]) hx hb dX4_takeSolid_7 rfl hl (by decide) rfl (fun ls hl => ?_)
  refine lv_aload_n hx hb dX4_takeSolid_8 rfl (lv_at hl 1 rfl) ?_
  refine lv_dup hx hb dX4_takeSolid_9 rfl ?_
  refine my_get X hK in_X4_takeSolid_X4 hP 0 rfl rfl 2 (by decide) (List.mem_of_getElem? (i := 1) rfl) rfl dX4_takeSolid_10 ?_
  refine lv_aload_n hx hb dX4_takeSolid_13 rfl (lv_at hl 2 rfl) ?_
  refine lv_iload_n hx hb dX4_takeSolid_14 rfl (lv_at hl 3 rfl) ?_
  refine lv_iconst (v := 2) hx hb dX4_takeSolid_15 (by decide) ?_
  have hPc := hP.sub (ws' := [(o, .inr (0, [.ref ar, .int (nI sz)])), (ar, .inl (cI, (cap * 8), .inl f))]) [2, 3] rfl
  refine my_rdi (my_runV (n := 2) (As := [.int (nI k), .int 2]) (rest := [.long al, .ref su]) (C := RX0) X PR.blind (PR.pre hPc hK) (va_recv hK.1 hPc (ci := 0) (q0 := 0) rfl rfl) (c_at l dC dI cI cJ cO o ar cap f sz k 2 (by omega) (by omega) (by omega) (by omega)) gX4_takeSolid_X0_at rfl rfl rfl (by decide +kernel) rfl ⟨Nat.le_of_ble_eq_true rfl, Nat.le_of_ble_eq_true rfl⟩ hl.1 rfl (Nat.le_of_ble_eq_true rfl) dX4_takeSolid_16 ⟨by first | decide | omega | (dsimp only; omega), by first | decide | omega | (dsimp only; omega)⟩) (fun r_2 hr_2 => ?_)
  subst hr_2
  refine lv_i2l (v := (f (k * 8 + 2)).toInt64) hx hb dX4_takeSolid_19 rfl ?_
  refine lv_lload_n hx hb dX4_takeSolid_20 rfl (lv_at hl 0 rfl) ?_
  refine lv_ladd hx hb dX4_takeSolid_21 ?_
  refine lv_ladd hx hb dX4_takeSolid_22 ?_
  refine my_put X hK in_X4_takeSolid_X4 tyX4 tyX4_ok nmX4 hP hD hS 0 rfl rfl 2 (by decide) (List.mem_of_getElem? (i := 1) rfl) rfl rfl rfl (Nat.le_of_ble_eq_true rfl) dX4_takeSolid_23 (fun H locs hP hD hS => ?_)
  have hP : va_P (dC, dI) vwCl ([(su, .inr (4, [.ref sa, .long z, .long (al + (((f (k * 8 + 2)).toInt64) + ((f (k * 8 + 3)).toInt64))), .long dp, .long wd, .int lim])), (sa, .inl (cJ, 4, .inr (.inl g))), (o, .inr (0, [.ref ar, .int (nI sz)])), (ar, .inl (cI, (cap * 8), .inl f))]) H := hP
  have hD : va_D A ([(su, .inr (4, [.ref sa, .long z, .long (al + (((f (k * 8 + 2)).toInt64) + ((f (k * 8 + 3)).toInt64))), .long dp, .long wd, .int lim])), (sa, .inl (cJ, 4, .inr (.inl g))), (o, .inr (0, [.ref ar, .int (nI sz)])), (ar, .inl (cI, (cap * 8), .inl f))]) := hD
  refine lv_aload_n hx hb dX4_takeSolid_26 rfl (lv_at hl 1 rfl) ?_
  refine lv_lload_n hx hb dX4_takeSolid_27 rfl (lv_at hl 0 rfl) ?_
  refine lv_aload_n hx hb dX4_takeSolid_28 rfl (lv_at hl 1 rfl) ?_
  refine my_get X hK in_X4_takeSolid_X4 hP 0 rfl rfl 5 (by decide) (List.mem_of_getElem? (i := 2) rfl) rfl dX4_takeSolid_29 ?_
  refine lv_i2l (v := lim.toInt64) hx hb dX4_takeSolid_32 rfl ?_
  refine va_mmin_long hx hb (hml.trans hl.1.symm) hown (hts _ (List.mem_of_getElem? (i := 3) rfl)) (hts _ (List.mem_of_getElem? (i := 4) rfl)) (hts _ (List.mem_of_getElem? (i := 5) rfl)) (hts _ (List.mem_of_getElem? (i := 6) rfl)) (Nat.le_of_ble_eq_true rfl) (Nat.le_of_ble_eq_true rfl) (by first | decide | omega | (dsimp only; omega)) (by first | decide | omega | (dsimp only; omega)) dX4_takeSolid_33 ?_
  refine my_put X hK in_X4_takeSolid_X4 tyX4 tyX4_ok nmX4 hP hD hS 0 rfl rfl 3 (by decide) (List.mem_of_getElem? (i := 7) rfl) rfl rfl rfl (Nat.le_of_ble_eq_true rfl) dX4_takeSolid_36 (fun H locs hP hD hS => ?_)
  have hP : va_P (dC, dI) vwCl ([(su, .inr (4, [.ref sa, .long z, .long (al + (((f (k * 8 + 2)).toInt64) + ((f (k * 8 + 3)).toInt64))), .long (if lim.toInt64 < ((f (k * 8 + 3)).toInt64) then lim.toInt64 else ((f (k * 8 + 3)).toInt64)), .long wd, .int lim])), (sa, .inl (cJ, 4, .inr (.inl g))), (o, .inr (0, [.ref ar, .int (nI sz)])), (ar, .inl (cI, (cap * 8), .inl f))]) H := hP
  have hD : va_D A ([(su, .inr (4, [.ref sa, .long z, .long (al + (((f (k * 8 + 2)).toInt64) + ((f (k * 8 + 3)).toInt64))), .long (if lim.toInt64 < ((f (k * 8 + 3)).toInt64) then lim.toInt64 else ((f (k * 8 + 3)).toInt64)), .long wd, .int lim])), (sa, .inl (cJ, 4, .inr (.inl g))), (o, .inr (0, [.ref ar, .int (nI sz)])), (ar, .inl (cI, (cap * 8), .inl f))]) := hD
  refine lv_aload_n hx hb dX4_takeSolid_39 rfl (lv_at hl 1 rfl) ?_
  refine lv_aload_n hx hb dX4_takeSolid_40 rfl (lv_at hl 1 rfl) ?_
  refine my_get X hK in_X4_takeSolid_X4 hP 0 rfl rfl 4 (by decide) (List.mem_of_getElem? (i := 8) rfl) rfl dX4_takeSolid_41 ?_
  refine lv_aload_n hx hb dX4_takeSolid_44 rfl (lv_at hl 2 rfl) ?_
  refine lv_iload_n hx hb dX4_takeSolid_45 rfl (lv_at hl 3 rfl) ?_
  refine lv_iconst (v := 1) hx hb dX4_takeSolid_46 (by decide) ?_
  have hPc := hP.sub (ws' := [(o, .inr (0, [.ref ar, .int (nI sz)])), (ar, .inl (cI, (cap * 8), .inl f))]) [2, 3] rfl
  refine my_rdi (my_runV (n := 2) (As := [.int (nI k), .int 1]) (rest := [.long wd, .ref su]) (C := RX0) X PR.blind (PR.pre hPc hK) (va_recv hK.1 hPc (ci := 0) (q0 := 0) rfl rfl) (c_at l dC dI cI cJ cO o ar cap f sz k 1 (by omega) (by omega) (by omega) (by omega)) gX4_takeSolid_X0_at rfl rfl rfl (by decide +kernel) rfl ⟨Nat.le_of_ble_eq_true rfl, Nat.le_of_ble_eq_true rfl⟩ hl.1 rfl (Nat.le_of_ble_eq_true rfl) dX4_takeSolid_47 ⟨by first | decide | omega | (dsimp only; omega), by first | decide | omega | (dsimp only; omega)⟩) (fun r_3 hr_3 => ?_)
  subst hr_3
  refine lv_i2l (v := (f (k * 8 + 1)).toInt64) hx hb dX4_takeSolid_50 rfl ?_
  refine lv_aload_n hx hb dX4_takeSolid_51 rfl (lv_at hl 2 rfl) ?_
  refine lv_iload_n hx hb dX4_takeSolid_52 rfl (lv_at hl 3 rfl) ?_
  refine lv_iconst (v := 4) hx hb dX4_takeSolid_53 (by decide) ?_
  have hPc := hP.sub (ws' := [(o, .inr (0, [.ref ar, .int (nI sz)])), (ar, .inl (cI, (cap * 8), .inl f))]) [2, 3] rfl
  refine my_rdi (my_runV (n := 2) (As := [.int (nI k), .int 4]) (rest := [.long ((f (k * 8 + 1)).toInt64), .long wd, .ref su]) (C := RX0) X PR.blind (PR.pre hPc hK) (va_recv hK.1 hPc (ci := 0) (q0 := 0) rfl rfl) (c_at l dC dI cI cJ cO o ar cap f sz k 4 (by omega) (by omega) (by omega) (by omega)) gX4_takeSolid_X0_at rfl rfl rfl (by decide +kernel) rfl ⟨Nat.le_of_ble_eq_true rfl, Nat.le_of_ble_eq_true rfl⟩ hl.1 rfl (Nat.le_of_ble_eq_true rfl) dX4_takeSolid_54 ⟨by first | decide | omega | (dsimp only; omega), by first | decide | omega | (dsimp only; omega)⟩) (fun r_4 hr_4 => ?_)
  subst hr_4
  refine lv_i2l (v := (f (k * 8 + 4)).toInt64) hx hb dX4_takeSolid_57 rfl ?_
  refine lv_ladd hx hb dX4_takeSolid_58 ?_
  refine va_mmax_long hx hb (hml.trans hl.1.symm) hown (hts _ (List.mem_of_getElem? (i := 9) rfl)) (hts _ (List.mem_of_getElem? (i := 10) rfl)) (hts _ (List.mem_of_getElem? (i := 5) rfl)) (hts _ (List.mem_of_getElem? (i := 11) rfl)) (Nat.le_of_ble_eq_true rfl) (Nat.le_of_ble_eq_true rfl) (by first | decide | omega | (dsimp only; omega)) (by first | decide | omega | (dsimp only; omega)) dX4_takeSolid_59 ?_
  refine my_put X hK in_X4_takeSolid_X4 tyX4 tyX4_ok nmX4 hP hD hS 0 rfl rfl 4 (by decide) (List.mem_of_getElem? (i := 8) rfl) rfl rfl rfl (Nat.le_of_ble_eq_true rfl) dX4_takeSolid_62 (fun H locs hP hD hS => ?_)
  have hP : va_P (dC, dI) vwCl ([(su, .inr (4, [.ref sa, .long z, .long (al + (((f (k * 8 + 2)).toInt64) + ((f (k * 8 + 3)).toInt64))), .long (if lim.toInt64 < ((f (k * 8 + 3)).toInt64) then lim.toInt64 else ((f (k * 8 + 3)).toInt64)), .long (if (((f (k * 8 + 1)).toInt64) + ((f (k * 8 + 4)).toInt64)) < wd then wd else (((f (k * 8 + 1)).toInt64) + ((f (k * 8 + 4)).toInt64))), .int lim])), (sa, .inl (cJ, 4, .inr (.inl g))), (o, .inr (0, [.ref ar, .int (nI sz)])), (ar, .inl (cI, (cap * 8), .inl f))]) H := hP
  have hD : va_D A ([(su, .inr (4, [.ref sa, .long z, .long (al + (((f (k * 8 + 2)).toInt64) + ((f (k * 8 + 3)).toInt64))), .long (if lim.toInt64 < ((f (k * 8 + 3)).toInt64) then lim.toInt64 else ((f (k * 8 + 3)).toInt64)), .long (if (((f (k * 8 + 1)).toInt64) + ((f (k * 8 + 4)).toInt64)) < wd then wd else (((f (k * 8 + 1)).toInt64) + ((f (k * 8 + 4)).toInt64))), .int lim])), (sa, .inl (cJ, 4, .inr (.inl g))), (o, .inr (0, [.ref ar, .int (nI sz)])), (ar, .inl (cI, (cap * 8), .inl f))]) := hD
  exact my_vret (WSf := (fun u : Int64 × Int64 => [(su, .inr (4, [.ref sa, .long z, .long (al + ((f (k * 8 + 2)).toInt64 + (f (k * 8 + 3)).toInt64)), .long u.1, .long u.2, .int lim])), (sa, .inl (cJ, 4, .inr (.inl g))), (o, .inr (0, [.ref ar, .int (nI sz)])), (ar, .inl (cI, (cap * 8), .inl f))])) (if lim.toInt64 < ((f (k * 8 + 3)).toInt64) then lim.toInt64 else ((f (k * 8 + 3)).toInt64), if (((f (k * 8 + 1)).toInt64) + ((f (k * 8 + 4)).toInt64)) < wd then wd else (((f (k * 8 + 1)).toInt64) + ((f (k * 8 + 4)).toInt64))) X (⟨rfl, rfl⟩) (hP) (hD) hS (by first | decide | omega | (dsimp only; omega)) (by first | decide | omega | (dsimp only; omega)) dX4_takeSolid_65
theorem in_X4_take_X4 : ∀ w ∈ wsX40, w ∈ wsX4_take := fun _ h => List.mem_cons_of_mem _ (List.mem_append_left _ (List.mem_append_right _ h))
set_option maxHeartbeats 200000 in
set_option maxRecDepth 100000 in
theorem c_take (l : Launch) (dC : Nat → ClassId) (dI : Nat → Nat → Nat) (cI cJ cO : ClassId) (hz : Nat) (su : Nat) (sa : Nat) (g : Nat → Int64) (z : Int64) (al : Int64) (dp : Int64) (wd : Int64) (lim : Int32) (o : Nat) (ar : Nat) (cap : Nat) (f : Nat → Int32) (sz : Nat) (k : Nat) (hk : k < sz) (hsz : sz ≤ cap) (hcap : cap ≤ 4001) : Met l yX4_take wsX4_take ({ frames := 2, cells := 0, slots := 0, locals := 60 }) (va_Pc [.ref su, .ref o, .int (nI k)] (PW dC dI cI cJ cO [(su, .inr (4, [.ref sa, .long z, .long al, .long dp, .long wd, .int lim])), (sa, .inl (cJ, 4, .inr (.inl g))), (o, .inr (0, [.ref ar, .int (nI sz)])), (ar, .inl (cI, (cap * 8), .inl f))] hz)) (va_Qv (fun u : (Nat → Int64) × Int64 × Int64 × Int64 × Int64 => u.1 = tS g (fun j => f (k * 8 + j)) ∧ u.2.1 = tZ z (fun j => f (k * 8 + j)) ∧ u.2.2.1 = tA al (fun j => f (k * 8 + j)) ∧ u.2.2.2.1 = tD lim (fun j => f (k * 8 + j)) ∧ u.2.2.2.2 = tW wd (fun j => f (k * 8 + j))) (fun (u : (Nat → Int64) × Int64 × Int64 × Int64 × Int64) t9 => BW dC dI (va_A [(su, .inr (4, [.ref sa, .long z, .long al, .long dp, .long wd, .int lim])), (sa, .inl (cJ, 4, .inr (.inl g))), (o, .inr (0, [.ref ar, .int (nI sz)])), (ar, .inl (cI, (cap * 8), .inl f))] hz) [(su, .inr (4, [.ref sa, .long u.2.1, .long u.2.2.1, .long u.2.2.2.1, .long u.2.2.2.2, .int lim])), (sa, .inl (cJ, 4, .inr (.inl u.1))), (o, .inr (0, [.ref ar, .int (nI sz)])), (ar, .inl (cI, (cap * 8), .inl f))] t9) (va_A [(su, .inr (4, [.ref sa, .long z, .long al, .long dp, .long wd, .int lim])), (sa, .inl (cJ, 4, .inr (.inl g))), (o, .inr (0, [.ref ar, .int (nI sz)])), (ar, .inl (cI, (cap * 8), .inl f))] hz)) 0 0 (va_A [(su, .inr (4, [.ref sa, .long z, .long al, .long dp, .long wd, .int lim])), (sa, .inl (cJ, 4, .inr (.inl g))), (o, .inr (0, [.ref ar, .int (nI sz)])), (ar, .inl (cI, (cap * 8), .inl f))] hz) := by
  refine my_metW (ws := wsX4_take) (cc := cX4_take) (maxL := 3) (ret := none) (Qc := fun A => va_Qv (fun u : (Nat → Int64) × Int64 × Int64 × Int64 × Int64 => u.1 = tS g (fun j => f (k * 8 + j)) ∧ u.2.1 = tZ z (fun j => f (k * 8 + j)) ∧ u.2.2.1 = tA al (fun j => f (k * 8 + j)) ∧ u.2.2.2.1 = tD lim (fun j => f (k * 8 + j)) ∧ u.2.2.2.2 = tW wd (fun j => f (k * 8 + j))) (fun (u : (Nat → Int64) × Int64 × Int64 × Int64 × Int64) t9 => BW dC dI A [(su, .inr (4, [.ref sa, .long u.2.1, .long u.2.2.1, .long u.2.2.2.1, .long u.2.2.2.2, .int lim])), (sa, .inl (cJ, 4, .inr (.inl u.1))), (o, .inr (0, [.ref ar, .int (nI sz)])), (ar, .inl (cI, (cap * 8), .inl f))] t9) A) (by decide) rfl (Nat.le_of_ble_eq_true rfl) ?_
  intro p e s m below meth c ls A X hl hK hA hP hD hS
  obtain ⟨hx, hb, hr, hml, hown, hts, hlocks, hnm⟩ := id X
  have hl : lv_has ls 3 [(0, .ref su), (1, .ref o), (2, .int (nI k))] := hl
  refine lv_aload_n hx hb dX4_take_0 rfl (lv_at hl 0 rfl) ?_
  refine lv_lconst (v := 0) hx hb dX4_take_1 (by decide) ?_
  refine my_put X hK in_X4_take_X4 tyX4 tyX4_ok nmX4 hP hD hS 0 rfl rfl 3 (by decide) (List.mem_of_getElem? (i := 1) rfl) rfl rfl rfl (Nat.le_of_ble_eq_true rfl) dX4_take_2 (fun H locs hP hD hS => ?_)
  have hP : va_P (dC, dI) vwCl ([(su, .inr (4, [.ref sa, .long z, .long al, .long 0, .long wd, .int lim])), (sa, .inl (cJ, 4, .inr (.inl g))), (o, .inr (0, [.ref ar, .int (nI sz)])), (ar, .inl (cI, (cap * 8), .inl f))]) H := hP
  have hD : va_D A ([(su, .inr (4, [.ref sa, .long z, .long al, .long 0, .long wd, .int lim])), (sa, .inl (cJ, 4, .inr (.inl g))), (o, .inr (0, [.ref ar, .int (nI sz)])), (ar, .inl (cI, (cap * 8), .inl f))]) := hD
  refine lv_aload_n hx hb dX4_take_5 rfl (lv_at hl 1 rfl) ?_
  refine lv_iload_n hx hb dX4_take_6 rfl (lv_at hl 2 rfl) ?_
  refine lv_iconst (v := 0) hx hb dX4_take_7 (by decide) ?_
  have hPc := hP.sub (ws' := [(o, .inr (0, [.ref ar, .int (nI sz)])), (ar, .inl (cI, (cap * 8), .inl f))]) [2, 3] rfl
  refine my_rdi (my_runV (n := 2) (As := [.int (nI k), .int 0]) (rest := []) (C := RX0) X PR.blind (PR.pre hPc hK) (va_recv hK.1 hPc (ci := 0) (q0 := 0) rfl rfl) (c_at l dC dI cI cJ cO o ar cap f sz k 0 (by omega) (by omega) (by omega) (by omega)) gX4_take_X0_at rfl rfl rfl (by decide +kernel) rfl ⟨Nat.le_of_ble_eq_true rfl, Nat.le_of_ble_eq_true rfl⟩ hl.1 rfl (Nat.le_of_ble_eq_true rfl) dX4_take_8 ⟨by first | decide | omega | (dsimp only; omega), by first | decide | omega | (dsimp only; omega)⟩) (fun r_1 hr_1 => ?_)
  subst hr_1
  refine my_topi (show f (k * 8 + 0) = f (k * 8) from rfl) ?_
  by_cases k11_2 : f (k * 8) = 2
  · refine lv_tableIn (off := 33) (tgt := 44) hx hb dX4_take_11 (by rw [k11_2]; decide) (by rw [k11_2]; decide) (by rw [k11_2]; rfl) (by decide) ?_
    refine lv_aload_n hx hb dX4_take_44 rfl (lv_at hl 0 rfl) ?_
    refine lv_aload_n hx hb dX4_take_45 rfl (lv_at hl 1 rfl) ?_
    refine lv_iload_n hx hb dX4_take_46 rfl (lv_at hl 2 rfl) ?_
    have hPc := hP.sub (ws' := [(su, .inr (4, [.ref sa, .long z, .long al, .long 0, .long wd, .int lim])), (sa, .inl (cJ, 4, .inr (.inl g))), (o, .inr (0, [.ref ar, .int (nI sz)])), (ar, .inl (cI, (cap * 8), .inl f))]) [0, 1, 2, 3] rfl
    have hDc := hD.sub (ws' := [(su, .inr (4, [.ref sa, .long z, .long al, .long 0, .long wd, .int lim])), (sa, .inl (cJ, 4, .inr (.inl g))), (o, .inr (0, [.ref ar, .int (nI sz)])), (ar, .inl (cI, (cap * 8), .inl f))]) [0, 1, 2, 3] (by decide) rfl
    refine my_callv (ws := [(su, .inr (4, [.ref sa, .long z, .long al, .long 0, .long wd, .int lim])), (sa, .inl (cJ, 4, .inr (.inl g))), (o, .inr (0, [.ref ar, .int (nI sz)])), (ar, .inl (cI, (cap * 8), .inl f))]) (F := []) (wr := []) (my_runV (n := 2) (As := [.ref o, .int (nI k)]) (rest := []) (C := RX4) X PW.blind (PW.pre hPc hDc hK) (va_recv hK.1 hPc (ci := 4) (q0 := 0) rfl rfl) (c_takeSolid l dC dI cI cJ cO _ su sa g z al 0 wd lim o ar cap f sz k (by omega) (by omega) (by omega)) gX4_take_X4_takeSolid rfl rfl rfl (by decide +kernel) rfl ⟨Nat.le_of_ble_eq_true rfl, Nat.le_of_ble_eq_true rfl⟩ hl.1 rfl (Nat.le_of_ble_eq_true rfl) dX4_take_47 ⟨by first | decide | omega | (dsimp only; omega), by first | decide | omega | (dsimp only; omega)⟩) hS hP hD hA [0, 1, 2, 3] [] rfl rfl (by decide) (by decide) (fun u H locs hw_2 hP hD hS => ?_)
    obtain ⟨d1_3, w1_4⟩ := u
    try dsimp only at hw_2
    obtain ⟨rfl, rfl⟩ := hw_2
    have hP : va_P (dC, dI) vwCl [(su, .inr (4, [.ref sa, .long z, .long (al + ((f (k * 8 + 2)).toInt64 + (f (k * 8 + 3)).toInt64)), .long (miL (f (k * 8 + 3)).toInt64 lim.toInt64), .long (maL wd ((f (k * 8 + 1)).toInt64 + (f (k * 8 + 4)).toInt64)), .int lim])), (sa, .inl (cJ, 4, .inr (.inl g))), (o, .inr (0, [.ref ar, .int (nI sz)])), (ar, .inl (cI, (cap * 8), .inl f))] H := hP.sub [0, 1, 2, 3] rfl
    have hD : va_D A [(su, .inr (4, [.ref sa, .long z, .long (al + ((f (k * 8 + 2)).toInt64 + (f (k * 8 + 3)).toInt64)), .long (miL (f (k * 8 + 3)).toInt64 lim.toInt64), .long (maL wd ((f (k * 8 + 1)).toInt64 + (f (k * 8 + 4)).toInt64)), .int lim])), (sa, .inl (cJ, 4, .inr (.inl g))), (o, .inr (0, [.ref ar, .int (nI sz)])), (ar, .inl (cI, (cap * 8), .inl f))] := hD.sub [0, 1, 2, 3] (by decide) rfl
    refine lv_goto (tgt := 81) hx hb dX4_take_50 (by decide) ?_
    exact my_vret (WSf := (fun u : (Nat → Int64) × Int64 × Int64 × Int64 × Int64 => [(su, .inr (4, [.ref sa, .long u.2.1, .long u.2.2.1, .long u.2.2.2.1, .long u.2.2.2.2, .int lim])), (sa, .inl (cJ, 4, .inr (.inl u.1))), (o, .inr (0, [.ref ar, .int (nI sz)])), (ar, .inl (cI, (cap * 8), .inl f))])) (g, z, al + ((f (k * 8 + 2)).toInt64 + (f (k * 8 + 3)).toInt64), (miL (f (k * 8 + 3)).toInt64 lim.toInt64), (maL wd ((f (k * 8 + 1)).toInt64 + (f (k * 8 + 4)).toInt64))) X (by simp [tS, tZ, tA, tD, tW, k11_2]) (hP) (hD) hS (by first | decide | omega | (dsimp only; omega)) (by first | decide | omega | (dsimp only; omega)) dX4_take_81
  by_cases k11_3 : f (k * 8) = 3
  · refine lv_tableIn (off := 70) (tgt := 81) hx hb dX4_take_11 (by rw [k11_3]; decide) (by rw [k11_3]; decide) (by rw [k11_3]; rfl) (by decide) ?_
    exact my_vret (WSf := (fun u : (Nat → Int64) × Int64 × Int64 × Int64 × Int64 => [(su, .inr (4, [.ref sa, .long u.2.1, .long u.2.2.1, .long u.2.2.2.1, .long u.2.2.2.2, .int lim])), (sa, .inl (cJ, 4, .inr (.inl u.1))), (o, .inr (0, [.ref ar, .int (nI sz)])), (ar, .inl (cI, (cap * 8), .inl f))])) (g, z, al, 0, wd) X (by simp [tS, tZ, tA, tD, tW, k11_2, k11_3]) (hP) (hD) hS (by first | decide | omega | (dsimp only; omega)) (by first | decide | omega | (dsimp only; omega)) dX4_take_81
  by_cases k11_4 : f (k * 8) = 4
  · refine lv_tableIn (off := 33) (tgt := 44) hx hb dX4_take_11 (by rw [k11_4]; decide) (by rw [k11_4]; decide) (by rw [k11_4]; rfl) (by decide) ?_
    refine lv_aload_n hx hb dX4_take_44 rfl (lv_at hl 0 rfl) ?_
    refine lv_aload_n hx hb dX4_take_45 rfl (lv_at hl 1 rfl) ?_
    refine lv_iload_n hx hb dX4_take_46 rfl (lv_at hl 2 rfl) ?_
    have hPc := hP.sub (ws' := [(su, .inr (4, [.ref sa, .long z, .long al, .long 0, .long wd, .int lim])), (sa, .inl (cJ, 4, .inr (.inl g))), (o, .inr (0, [.ref ar, .int (nI sz)])), (ar, .inl (cI, (cap * 8), .inl f))]) [0, 1, 2, 3] rfl
    have hDc := hD.sub (ws' := [(su, .inr (4, [.ref sa, .long z, .long al, .long 0, .long wd, .int lim])), (sa, .inl (cJ, 4, .inr (.inl g))), (o, .inr (0, [.ref ar, .int (nI sz)])), (ar, .inl (cI, (cap * 8), .inl f))]) [0, 1, 2, 3] (by decide) rfl
    refine my_callv (ws := [(su, .inr (4, [.ref sa, .long z, .long al, .long 0, .long wd, .int lim])), (sa, .inl (cJ, 4, .inr (.inl g))), (o, .inr (0, [.ref ar, .int (nI sz)])), (ar, .inl (cI, (cap * 8), .inl f))]) (F := []) (wr := []) (my_runV (n := 2) (As := [.ref o, .int (nI k)]) (rest := []) (C := RX4) X PW.blind (PW.pre hPc hDc hK) (va_recv hK.1 hPc (ci := 4) (q0 := 0) rfl rfl) (c_takeSolid l dC dI cI cJ cO _ su sa g z al 0 wd lim o ar cap f sz k (by omega) (by omega) (by omega)) gX4_take_X4_takeSolid rfl rfl rfl (by decide +kernel) rfl ⟨Nat.le_of_ble_eq_true rfl, Nat.le_of_ble_eq_true rfl⟩ hl.1 rfl (Nat.le_of_ble_eq_true rfl) dX4_take_47 ⟨by first | decide | omega | (dsimp only; omega), by first | decide | omega | (dsimp only; omega)⟩) hS hP hD hA [0, 1, 2, 3] [] rfl rfl (by decide) (by decide) (fun u H locs hw_5 hP hD hS => ?_)
    obtain ⟨d1_6, w1_7⟩ := u
    try dsimp only at hw_5
    obtain ⟨rfl, rfl⟩ := hw_5
    have hP : va_P (dC, dI) vwCl [(su, .inr (4, [.ref sa, .long z, .long (al + ((f (k * 8 + 2)).toInt64 + (f (k * 8 + 3)).toInt64)), .long (miL (f (k * 8 + 3)).toInt64 lim.toInt64), .long (maL wd ((f (k * 8 + 1)).toInt64 + (f (k * 8 + 4)).toInt64)), .int lim])), (sa, .inl (cJ, 4, .inr (.inl g))), (o, .inr (0, [.ref ar, .int (nI sz)])), (ar, .inl (cI, (cap * 8), .inl f))] H := hP.sub [0, 1, 2, 3] rfl
    have hD : va_D A [(su, .inr (4, [.ref sa, .long z, .long (al + ((f (k * 8 + 2)).toInt64 + (f (k * 8 + 3)).toInt64)), .long (miL (f (k * 8 + 3)).toInt64 lim.toInt64), .long (maL wd ((f (k * 8 + 1)).toInt64 + (f (k * 8 + 4)).toInt64)), .int lim])), (sa, .inl (cJ, 4, .inr (.inl g))), (o, .inr (0, [.ref ar, .int (nI sz)])), (ar, .inl (cI, (cap * 8), .inl f))] := hD.sub [0, 1, 2, 3] (by decide) rfl
    refine lv_goto (tgt := 81) hx hb dX4_take_50 (by decide) ?_
    exact my_vret (WSf := (fun u : (Nat → Int64) × Int64 × Int64 × Int64 × Int64 => [(su, .inr (4, [.ref sa, .long u.2.1, .long u.2.2.1, .long u.2.2.2.1, .long u.2.2.2.2, .int lim])), (sa, .inl (cJ, 4, .inr (.inl u.1))), (o, .inr (0, [.ref ar, .int (nI sz)])), (ar, .inl (cI, (cap * 8), .inl f))])) (g, z, al + ((f (k * 8 + 2)).toInt64 + (f (k * 8 + 3)).toInt64), (miL (f (k * 8 + 3)).toInt64 lim.toInt64), (maL wd ((f (k * 8 + 1)).toInt64 + (f (k * 8 + 4)).toInt64))) X (by simp [tS, tZ, tA, tD, tW, k11_2, k11_3, k11_4]) (hP) (hD) hS (by first | decide | omega | (dsimp only; omega)) (by first | decide | omega | (dsimp only; omega)) dX4_take_81
  by_cases k11_5 : f (k * 8) = 5
  · refine lv_tableIn (off := 42) (tgt := 53) hx hb dX4_take_11 (by rw [k11_5]; decide) (by rw [k11_5]; decide) (by rw [k11_5]; rfl) (by decide) ?_
    refine lv_aload_n hx hb dX4_take_53 rfl (lv_at hl 0 rfl) ?_
    refine lv_aload_n hx hb dX4_take_54 rfl (lv_at hl 1 rfl) ?_
    refine lv_iload_n hx hb dX4_take_55 rfl (lv_at hl 2 rfl) ?_
    have hPc := hP.sub (ws' := [(su, .inr (4, [.ref sa, .long z, .long al, .long 0, .long wd, .int lim])), (sa, .inl (cJ, 4, .inr (.inl g))), (o, .inr (0, [.ref ar, .int (nI sz)])), (ar, .inl (cI, (cap * 8), .inl f))]) [0, 1, 2, 3] rfl
    have hDc := hD.sub (ws' := [(su, .inr (4, [.ref sa, .long z, .long al, .long 0, .long wd, .int lim])), (sa, .inl (cJ, 4, .inr (.inl g))), (o, .inr (0, [.ref ar, .int (nI sz)])), (ar, .inl (cI, (cap * 8), .inl f))]) [0, 1, 2, 3] (by decide) rfl
    refine my_callv (ws := [(su, .inr (4, [.ref sa, .long z, .long al, .long 0, .long wd, .int lim])), (sa, .inl (cJ, 4, .inr (.inl g))), (o, .inr (0, [.ref ar, .int (nI sz)])), (ar, .inl (cI, (cap * 8), .inl f))]) (F := []) (wr := []) (my_runV (n := 2) (As := [.ref o, .int (nI k)]) (rest := []) (C := RX4) X PW.blind (PW.pre hPc hDc hK) (va_recv hK.1 hPc (ci := 4) (q0 := 0) rfl rfl) (c_takeGlue l dC dI cI cJ cO _ su sa g z al 0 wd lim o ar cap f sz k (by omega) (by omega) (by omega)) gX4_take_X4_takeGlue rfl rfl rfl (by decide +kernel) rfl ⟨Nat.le_of_ble_eq_true rfl, Nat.le_of_ble_eq_true rfl⟩ hl.1 rfl (Nat.le_of_ble_eq_true rfl) dX4_take_56 ⟨by first | decide | omega | (dsimp only; omega), by first | decide | omega | (dsimp only; omega)⟩) hS hP hD hA [0, 1, 2, 3] [] rfl rfl (by decide) (by decide) (fun u H locs hw_8 hP hD hS => ?_)
    obtain ⟨g1_9, rfl⟩ : ∃ z, z = u := ⟨_, rfl⟩
    try dsimp only at hw_8
    subst hw_8
    have hP : va_P (dC, dI) vwCl [(su, .inr (4, [.ref sa, .long (z + (f (k * 8 + 7)).toInt64), .long (al + (f (k * 8 + 1)).toInt64), .long 0, .long wd, .int lim])), (sa, .inl (cJ, 4, .inr (.inl (tkG g (fun j => f (k * 8 + j)))))), (o, .inr (0, [.ref ar, .int (nI sz)])), (ar, .inl (cI, (cap * 8), .inl f))] H := hP.sub [0, 1, 2, 3] rfl
    have hD : va_D A [(su, .inr (4, [.ref sa, .long (z + (f (k * 8 + 7)).toInt64), .long (al + (f (k * 8 + 1)).toInt64), .long 0, .long wd, .int lim])), (sa, .inl (cJ, 4, .inr (.inl (tkG g (fun j => f (k * 8 + j)))))), (o, .inr (0, [.ref ar, .int (nI sz)])), (ar, .inl (cI, (cap * 8), .inl f))] := hD.sub [0, 1, 2, 3] (by decide) rfl
    refine lv_goto (tgt := 81) hx hb dX4_take_59 (by decide) ?_
    exact my_vret (WSf := (fun u : (Nat → Int64) × Int64 × Int64 × Int64 × Int64 => [(su, .inr (4, [.ref sa, .long u.2.1, .long u.2.2.1, .long u.2.2.2.1, .long u.2.2.2.2, .int lim])), (sa, .inl (cJ, 4, .inr (.inl u.1))), (o, .inr (0, [.ref ar, .int (nI sz)])), (ar, .inl (cI, (cap * 8), .inl f))])) ((tkG g (fun j => f (k * 8 + j))), z + (f (k * 8 + 7)).toInt64, al + (f (k * 8 + 1)).toInt64, 0, wd) X (by simp [tS, tZ, tA, tD, tW, k11_2, k11_3, k11_4, k11_5]) (hP) (hD) hS (by first | decide | omega | (dsimp only; omega)) (by first | decide | omega | (dsimp only; omega)) dX4_take_81
  by_cases k11_6 : f (k * 8) = 6
  · refine lv_tableIn (off := 51) (tgt := 62) hx hb dX4_take_11 (by rw [k11_6]; decide) (by rw [k11_6]; decide) (by rw [k11_6]; rfl) (by decide) ?_
    refine lv_aload_n hx hb dX4_take_62 rfl (lv_at hl 0 rfl) ?_
    refine lv_dup hx hb dX4_take_63 rfl ?_
    refine my_get X hK in_X4_take_X4 hP 0 rfl rfl 2 (by decide) (List.mem_of_getElem? (i := 2) rfl) rfl dX4_take_64 ?_
    refine lv_aload_n hx hb dX4_take_67 rfl (lv_at hl 1 rfl) ?_
    refine lv_iload_n hx hb dX4_take_68 rfl (lv_at hl 2 rfl) ?_
    refine lv_iconst (v := 1) hx hb dX4_take_69 (by decide) ?_
    have hPc := hP.sub (ws' := [(o, .inr (0, [.ref ar, .int (nI sz)])), (ar, .inl (cI, (cap * 8), .inl f))]) [2, 3] rfl
    refine my_rdi (my_runV (n := 2) (As := [.int (nI k), .int 1]) (rest := [.long al, .ref su]) (C := RX0) X PR.blind (PR.pre hPc hK) (va_recv hK.1 hPc (ci := 0) (q0 := 0) rfl rfl) (c_at l dC dI cI cJ cO o ar cap f sz k 1 (by omega) (by omega) (by omega) (by omega)) gX4_take_X0_at rfl rfl rfl (by decide +kernel) rfl ⟨Nat.le_of_ble_eq_true rfl, Nat.le_of_ble_eq_true rfl⟩ hl.1 rfl (Nat.le_of_ble_eq_true rfl) dX4_take_70 ⟨by first | decide | omega | (dsimp only; omega), by first | decide | omega | (dsimp only; omega)⟩) (fun r_10 hr_10 => ?_)
    subst hr_10
    refine lv_i2l (v := (f (k * 8 + 1)).toInt64) hx hb dX4_take_73 rfl ?_
    refine lv_ladd hx hb dX4_take_74 ?_
    refine my_put X hK in_X4_take_X4 tyX4 tyX4_ok nmX4 hP hD hS 0 rfl rfl 2 (by decide) (List.mem_of_getElem? (i := 2) rfl) rfl rfl rfl (Nat.le_of_ble_eq_true rfl) dX4_take_75 (fun H locs hP hD hS => ?_)
    have hP : va_P (dC, dI) vwCl ([(su, .inr (4, [.ref sa, .long z, .long (al + ((f (k * 8 + 1)).toInt64)), .long 0, .long wd, .int lim])), (sa, .inl (cJ, 4, .inr (.inl g))), (o, .inr (0, [.ref ar, .int (nI sz)])), (ar, .inl (cI, (cap * 8), .inl f))]) H := hP
    have hD : va_D A ([(su, .inr (4, [.ref sa, .long z, .long (al + ((f (k * 8 + 1)).toInt64)), .long 0, .long wd, .int lim])), (sa, .inl (cJ, 4, .inr (.inl g))), (o, .inr (0, [.ref ar, .int (nI sz)])), (ar, .inl (cI, (cap * 8), .inl f))]) := hD
    refine lv_goto (tgt := 81) hx hb dX4_take_78 (by decide) ?_
    exact my_vret (WSf := (fun u : (Nat → Int64) × Int64 × Int64 × Int64 × Int64 => [(su, .inr (4, [.ref sa, .long u.2.1, .long u.2.2.1, .long u.2.2.2.1, .long u.2.2.2.2, .int lim])), (sa, .inl (cJ, 4, .inr (.inl u.1))), (o, .inr (0, [.ref ar, .int (nI sz)])), (ar, .inl (cI, (cap * 8), .inl f))])) (g, z, al + ((f (k * 8 + 1)).toInt64), 0, wd) X (by simp [tS, tZ, tA, tD, tW, k11_2, k11_3, k11_4, k11_5, k11_6]) (hP) (hD) hS (by first | decide | omega | (dsimp only; omega)) (by first | decide | omega | (dsimp only; omega)) dX4_take_81
  have q11_2 : (f (k * 8)).toInt ≠ 2 := i_ne k11_2
  have q11_3 : (f (k * 8)).toInt ≠ 3 := i_ne k11_3
  have q11_4 : (f (k * 8)).toInt ≠ 4 := i_ne k11_4
  have q11_5 : (f (k * 8)).toInt ≠ 5 := i_ne k11_5
  have q11_6 : (f (k * 8)).toInt ≠ 6 := i_ne k11_6
  refine lv_tableOut (tgt := 81) hx hb dX4_take_11 (by omega) (by decide) ?_
  exact my_vret (WSf := (fun u : (Nat → Int64) × Int64 × Int64 × Int64 × Int64 => [(su, .inr (4, [.ref sa, .long u.2.1, .long u.2.2.1, .long u.2.2.2.1, .long u.2.2.2.2, .int lim])), (sa, .inl (cJ, 4, .inr (.inl u.1))), (o, .inr (0, [.ref ar, .int (nI sz)])), (ar, .inl (cI, (cap * 8), .inl f))])) (g, z, al, 0, wd) X (by simp [tS, tZ, tA, tD, tW, k11_2, k11_3, k11_4, k11_5, k11_6]) (hP) (hD) hS (by first | decide | omega | (dsimp only; omega)) (by first | decide | omega | (dsimp only; omega)) dX4_take_81
set_option maxHeartbeats 200000 in
set_option maxRecDepth 100000 in
theorem c_fill (l : Launch) (dC : Nat → ClassId) (dI : Nat → Nat → Nat) (cI cJ cO : ClassId) (hz : Nat) (sa : Nat) (g : Nat → Int64) (v : Int64)  : Met l yJ7_fill_d0a16 wsJ7_fill_d0a16 ({ frames := 0, cells := 0, slots := 0, locals := 0 }) (va_Pc [.ref sa, .long v] (PW dC dI cI cJ cO [(sa, .inl (cJ, 4, .inr (.inl g)))] hz)) (va_Qv (fun g1 : Nat → Int64 => ∀ j, j < 4 → g1 j = v) (fun (g1 : Nat → Int64) t9 => BW dC dI (va_A [(sa, .inl (cJ, 4, .inr (.inl g)))] hz) [(sa, .inl (cJ, 4, .inr (.inl g1)))] t9) (va_A [(sa, .inl (cJ, 4, .inr (.inl g)))] hz)) 0 0 (va_A [(sa, .inl (cJ, 4, .inr (.inl g)))] hz) := by
  refine my_metW (ws := wsJ7_fill_d0a16) (cc := cJ7_fill_d0a16) (maxL := 5) (ret := none) (Qc := fun A => va_Qv (fun g1 : Nat → Int64 => ∀ j, j < 4 → g1 j = v) (fun (g1 : Nat → Int64) t9 => BW dC dI A [(sa, .inl (cJ, 4, .inr (.inl g1)))] t9) A) (by decide) rfl (Nat.le_of_ble_eq_true rfl) ?_
  intro p e s m below meth c ls A X hl hK hA hP hD hS
  obtain ⟨hx, hb, hr, hml, hown, hts, hlocks, hnm⟩ := id X
  have hl : lv_has ls 5 [(0, .ref sa), (1, .long v)] := hl
  refine lv_iconst (v := 0) hx hb dJ7_fill_d0a16_0 (by decide) ?_
  refine lv_istore_n (lv' := [(3, .int 0), (0, .ref sa), (1, .long v)]) hx hb dJ7_fill_d0a16_1 rfl hl (by decide) rfl (fun ls hl => ?_)
  refine lv_aload_n hx hb dJ7_fill_d0a16_2 rfl (lv_at hl 1 rfl) ?_
  refine va_alen (v := nI 4) hx hb hK.1 hP 0 1 rfl rfl rfl dJ7_fill_d0a16_3 ?_
  refine lv_istore (lv' := [(4, .int (nI 4)), (3, .int 0), (0, .ref sa), (1, .long v)]) hx hb dJ7_fill_d0a16_4 hl (by decide) rfl (fun ls hl => ?_)
  refine lv_iload_n hx hb dJ7_fill_d0a16_6 rfl (lv_at hl 1 rfl) ?_
  refine lv_iload hx hb dJ7_fill_d0a16_7 (lv_at hl 0 rfl) ?_
  refine lv_icmp_ge (tgt := 22) hx hb dJ7_fill_d0a16_9 (by decide) (fun c_9 => ?_) (fun c_9 => ?_)
  · exact absurd c_9 (by decide)
  · have c_9 := nc_nle (a := 4) (b := 0) c_9 (by omega) (by omega)
    refine lv_aload_n hx hb dJ7_fill_d0a16_12 rfl (lv_at hl 2 rfl) ?_
    refine lv_iload_n hx hb dJ7_fill_d0a16_13 rfl (lv_at hl 1 rfl) ?_
    refine lv_lload_n hx hb dJ7_fill_d0a16_14 rfl (lv_at hl 3 rfl) ?_
    refine my_last (k := 0) hx hb hK hP hD hS 0 rfl (rfl) (by omega) (by omega) dJ7_fill_d0a16_15 (fun H locs hP hD hS => ?_)
    have hP : va_P (dC, dI) vwCl ([(sa, .inl (cJ, 4, .inr (.inl (vp_updL g 0 v))))]) H := hP
    have hD : va_D A ([(sa, .inl (cJ, 4, .inr (.inl (vp_updL g 0 v))))]) := hD
    refine lv_iinc (v := nI 1) (lv' := [(3, .int (nI 1)), (4, .int (nI 4)), (0, .ref sa), (1, .long v)]) hx hb dJ7_fill_d0a16_16 hl (k := 1) rfl (by decide) (by decide) rfl (fun ls hl => ?_)
    refine lv_goto (tgt := 6) hx hb dJ7_fill_d0a16_19 (by decide) ?_
    refine lv_iload_n hx hb dJ7_fill_d0a16_6 rfl (lv_at hl 0 rfl) ?_
    refine lv_iload hx hb dJ7_fill_d0a16_7 (lv_at hl 1 rfl) ?_
    refine lv_icmp_ge (tgt := 22) hx hb dJ7_fill_d0a16_9 (by decide) (fun c_9 => ?_) (fun c_9 => ?_)
    · exact absurd c_9 (by decide)
    · have c_9 := nc_nle (a := 4) (b := 1) c_9 (by omega) (by omega)
      refine lv_aload_n hx hb dJ7_fill_d0a16_12 rfl (lv_at hl 2 rfl) ?_
      refine lv_iload_n hx hb dJ7_fill_d0a16_13 rfl (lv_at hl 0 rfl) ?_
      refine lv_lload_n hx hb dJ7_fill_d0a16_14 rfl (lv_at hl 3 rfl) ?_
      refine my_last (k := 1) hx hb hK hP hD hS 0 rfl (rfl) (by omega) (by omega) dJ7_fill_d0a16_15 (fun H locs hP hD hS => ?_)
      have hP : va_P (dC, dI) vwCl ([(sa, .inl (cJ, 4, .inr (.inl (vp_updL (vp_updL g 0 v) 1 v))))]) H := hP
      have hD : va_D A ([(sa, .inl (cJ, 4, .inr (.inl (vp_updL (vp_updL g 0 v) 1 v))))]) := hD
      refine lv_iinc (v := nI 2) (lv' := [(3, .int (nI 2)), (4, .int (nI 4)), (0, .ref sa), (1, .long v)]) hx hb dJ7_fill_d0a16_16 hl (k := 0) rfl (by decide) (by decide) rfl (fun ls hl => ?_)
      refine lv_goto (tgt := 6) hx hb dJ7_fill_d0a16_19 (by decide) ?_
      refine lv_iload_n hx hb dJ7_fill_d0a16_6 rfl (lv_at hl 0 rfl) ?_
      refine lv_iload hx hb dJ7_fill_d0a16_7 (lv_at hl 1 rfl) ?_
      refine lv_icmp_ge (tgt := 22) hx hb dJ7_fill_d0a16_9 (by decide) (fun c_9 => ?_) (fun c_9 => ?_)
      · exact absurd c_9 (by decide)
      · have c_9 := nc_nle (a := 4) (b := 2) c_9 (by omega) (by omega)
        refine lv_aload_n hx hb dJ7_fill_d0a16_12 rfl (lv_at hl 2 rfl) ?_
        refine lv_iload_n hx hb dJ7_fill_d0a16_13 rfl (lv_at hl 0 rfl) ?_
        refine lv_lload_n hx hb dJ7_fill_d0a16_14 rfl (lv_at hl 3 rfl) ?_
        refine my_last (k := 2) hx hb hK hP hD hS 0 rfl (rfl) (by omega) (by omega) dJ7_fill_d0a16_15 (fun H locs hP hD hS => ?_)
        have hP : va_P (dC, dI) vwCl ([(sa, .inl (cJ, 4, .inr (.inl (vp_updL (vp_updL (vp_updL g 0 v) 1 v) 2 v))))]) H := hP
        have hD : va_D A ([(sa, .inl (cJ, 4, .inr (.inl (vp_updL (vp_updL (vp_updL g 0 v) 1 v) 2 v))))]) := hD
        refine lv_iinc (v := nI 3) (lv' := [(3, .int (nI 3)), (4, .int (nI 4)), (0, .ref sa), (1, .long v)]) hx hb dJ7_fill_d0a16_16 hl (k := 0) rfl (by decide) (by decide) rfl (fun ls hl => ?_)
        refine lv_goto (tgt := 6) hx hb dJ7_fill_d0a16_19 (by decide) ?_
        refine lv_iload_n hx hb dJ7_fill_d0a16_6 rfl (lv_at hl 0 rfl) ?_
        refine lv_iload hx hb dJ7_fill_d0a16_7 (lv_at hl 1 rfl) ?_
        refine lv_icmp_ge (tgt := 22) hx hb dJ7_fill_d0a16_9 (by decide) (fun c_9 => ?_) (fun c_9 => ?_)
        · exact absurd c_9 (by decide)
        · have c_9 := nc_nle (a := 4) (b := 3) c_9 (by omega) (by omega)
          refine lv_aload_n hx hb dJ7_fill_d0a16_12 rfl (lv_at hl 2 rfl) ?_
          refine lv_iload_n hx hb dJ7_fill_d0a16_13 rfl (lv_at hl 0 rfl) ?_
          refine lv_lload_n hx hb dJ7_fill_d0a16_14 rfl (lv_at hl 3 rfl) ?_
          refine my_last (k := 3) hx hb hK hP hD hS 0 rfl (rfl) (by omega) (by omega) dJ7_fill_d0a16_15 (fun H locs hP hD hS => ?_)
          have hP : va_P (dC, dI) vwCl ([(sa, .inl (cJ, 4, .inr (.inl (vp_updL (vp_updL (vp_updL (vp_updL g 0 v) 1 v) 2 v) 3 v))))]) H := hP
          have hD : va_D A ([(sa, .inl (cJ, 4, .inr (.inl (vp_updL (vp_updL (vp_updL (vp_updL g 0 v) 1 v) 2 v) 3 v))))]) := hD
          refine lv_iinc (v := nI 4) (lv' := [(3, .int (nI 4)), (4, .int (nI 4)), (0, .ref sa), (1, .long v)]) hx hb dJ7_fill_d0a16_16 hl (k := 0) rfl (by decide) (by decide) rfl (fun ls hl => ?_)
          refine lv_goto (tgt := 6) hx hb dJ7_fill_d0a16_19 (by decide) ?_
          refine lv_iload_n hx hb dJ7_fill_d0a16_6 rfl (lv_at hl 0 rfl) ?_
          refine lv_iload hx hb dJ7_fill_d0a16_7 (lv_at hl 1 rfl) ?_
          refine lv_icmp_ge (tgt := 22) hx hb dJ7_fill_d0a16_9 (by decide) (fun c_9 => ?_) (fun c_9 => ?_)
          · have c_9 := nc_le (a := 4) (b := 4) c_9 (by omega) (by omega)
            exact my_vret (WSf := (fun g1 : Nat → Int64 => [(sa, .inl (cJ, 4, .inr (.inl g1)))])) (vp_updL (vp_updL (vp_updL (vp_updL g 0 v) 1 v) 2 v) 3 v) X (fun j hj => by rcases (show j = 0 ∨ j = 1 ∨ j = 2 ∨ j = 3 by omega) with h | h | h | h <;> subst h <;> rfl) (hP) (hD) hS (by first | decide | omega | (dsimp only; omega)) (by first | decide | omega | (dsimp only; omega)) dJ7_fill_d0a16_22
          · exact absurd c_9 (by decide)
theorem in_X4_clear_X4 : ∀ w ∈ wsX40, w ∈ wsX4_clear := fun _ h => List.mem_cons_of_mem _ (List.mem_append_right _ h)
set_option maxHeartbeats 200000 in
set_option maxRecDepth 100000 in
theorem c_sclear (l : Launch) (dC : Nat → ClassId) (dI : Nat → Nat → Nat) (cI cJ cO : ClassId) (hz : Nat) (su : Nat) (sa : Nat) (g : Nat → Int64) (z : Int64) (al : Int64) (dp : Int64) (wd : Int64) (lim : Int32) (lm : Int32)  : Met l yX4_clear wsX4_clear ({ frames := 1, cells := 0, slots := 0, locals := 30 }) (va_Pc [.ref su, .int lm] (PW dC dI cI cJ cO [(su, .inr (4, [.ref sa, .long z, .long al, .long dp, .long wd, .int lim])), (sa, .inl (cJ, 4, .inr (.inl g)))] hz)) (va_Qv (fun g1 : Nat → Int64 => ∀ j, j < 4 → g1 j = 0) (fun (g1 : Nat → Int64) t9 => BW dC dI (va_A [(su, .inr (4, [.ref sa, .long z, .long al, .long dp, .long wd, .int lim])), (sa, .inl (cJ, 4, .inr (.inl g)))] hz) [(su, .inr (4, [.ref sa, .long 0, .long 0, .long 0, .long 0, .int lm])), (sa, .inl (cJ, 4, .inr (.inl g1)))] t9) (va_A [(su, .inr (4, [.ref sa, .long z, .long al, .long dp, .long wd, .int lim])), (sa, .inl (cJ, 4, .inr (.inl g)))] hz)) 0 0 (va_A [(su, .inr (4, [.ref sa, .long z, .long al, .long dp, .long wd, .int lim])), (sa, .inl (cJ, 4, .inr (.inl g)))] hz) := by
  refine my_metW (ws := wsX4_clear) (cc := cX4_clear) (maxL := 2) (ret := none) (Qc := fun A => va_Qv (fun g1 : Nat → Int64 => ∀ j, j < 4 → g1 j = 0) (fun (g1 : Nat → Int64) t9 => BW dC dI A [(su, .inr (4, [.ref sa, .long 0, .long 0, .long 0, .long 0, .int lm])), (sa, .inl (cJ, 4, .inr (.inl g1)))] t9) A) (by decide) rfl (Nat.le_of_ble_eq_true rfl) ?_
  intro p e s m below meth c ls A X hl hK hA hP hD hS
  obtain ⟨hx, hb, hr, hml, hown, hts, hlocks, hnm⟩ := id X
  have hl : lv_has ls 2 [(0, .ref su), (1, .int lm)] := hl
  refine lv_aload_n hx hb dX4_clear_0 rfl (lv_at hl 0 rfl) ?_
  refine my_get X hK in_X4_clear_X4 hP 0 rfl rfl 0 (by decide) (List.mem_of_getElem? (i := 1) rfl) rfl dX4_clear_1 ?_
  refine lv_lconst (v := 0) hx hb dX4_clear_4 (by decide) ?_
  have hPc := hP.sub (ws' := [(sa, .inl (cJ, 4, .inr (.inl g)))]) [1] rfl
  have hDc := hD.sub (ws' := [(sa, .inl (cJ, 4, .inr (.inl g)))]) [1] (by decide) rfl
  refine my_callv (ws := [(su, .inr (4, [.ref sa, .long z, .long al, .long dp, .long wd, .int lim])), (sa, .inl (cJ, 4, .inr (.inl g)))]) (F := []) (wr := [(su, .inr (4, [.ref sa, .long z, .long al, .long dp, .long wd, .int lim]))]) (my_runS (n := 2) (As := [.ref sa, .long 0]) (rest := []) X PW.blind (PW.pre hPc hDc hK) (c_fill l dC dI cI cJ cO _ sa g 0 ) gX4_clear_J7_fill_d0a16 rfl rfl rfl (by decide +kernel) rfl ⟨Nat.le_of_ble_eq_true rfl, Nat.le_of_ble_eq_true rfl⟩ hl.1 rfl (Nat.le_of_ble_eq_true rfl) dX4_clear_5 ⟨by first | decide | omega | (dsimp only; omega), by first | decide | omega | (dsimp only; omega)⟩) hS hP hD hA [1] [0] rfl rfl (by decide) (by decide) (fun u H locs hw_1 hP hD hS => ?_)
  obtain ⟨g1_2, rfl⟩ : ∃ z, z = u := ⟨_, rfl⟩
  try dsimp only at hw_1
  have hP : va_P (dC, dI) vwCl [(su, .inr (4, [.ref sa, .long z, .long al, .long dp, .long wd, .int lim])), (sa, .inl (cJ, 4, .inr (.inl g1_2)))] H := hP.sub [0, 1] rfl
  have hD : va_D A [(su, .inr (4, [.ref sa, .long z, .long al, .long dp, .long wd, .int lim])), (sa, .inl (cJ, 4, .inr (.inl g1_2)))] := hD.sub [0, 1] (by decide) rfl
  refine lv_aload_n hx hb dX4_clear_8 rfl (lv_at hl 0 rfl) ?_
  refine lv_lconst (v := 0) hx hb dX4_clear_9 (by decide) ?_
  refine my_put X hK in_X4_clear_X4 tyX4 tyX4_ok nmX4 hP hD hS 0 rfl rfl 1 (by decide) (List.mem_of_getElem? (i := 2) rfl) rfl rfl rfl (Nat.le_of_ble_eq_true rfl) dX4_clear_10 (fun H locs hP hD hS => ?_)
  have hP : va_P (dC, dI) vwCl ([(su, .inr (4, [.ref sa, .long 0, .long al, .long dp, .long wd, .int lim])), (sa, .inl (cJ, 4, .inr (.inl g1_2)))]) H := hP
  have hD : va_D A ([(su, .inr (4, [.ref sa, .long 0, .long al, .long dp, .long wd, .int lim])), (sa, .inl (cJ, 4, .inr (.inl g1_2)))]) := hD
  refine lv_aload_n hx hb dX4_clear_13 rfl (lv_at hl 0 rfl) ?_
  refine lv_lconst (v := 0) hx hb dX4_clear_14 (by decide) ?_
  refine my_put X hK in_X4_clear_X4 tyX4 tyX4_ok nmX4 hP hD hS 0 rfl rfl 2 (by decide) (List.mem_of_getElem? (i := 3) rfl) rfl rfl rfl (Nat.le_of_ble_eq_true rfl) dX4_clear_15 (fun H locs hP hD hS => ?_)
  have hP : va_P (dC, dI) vwCl ([(su, .inr (4, [.ref sa, .long 0, .long 0, .long dp, .long wd, .int lim])), (sa, .inl (cJ, 4, .inr (.inl g1_2)))]) H := hP
  have hD : va_D A ([(su, .inr (4, [.ref sa, .long 0, .long 0, .long dp, .long wd, .int lim])), (sa, .inl (cJ, 4, .inr (.inl g1_2)))]) := hD
  refine lv_aload_n hx hb dX4_clear_18 rfl (lv_at hl 0 rfl) ?_
  refine lv_lconst (v := 0) hx hb dX4_clear_19 (by decide) ?_
  refine my_put X hK in_X4_clear_X4 tyX4 tyX4_ok nmX4 hP hD hS 0 rfl rfl 3 (by decide) (List.mem_of_getElem? (i := 4) rfl) rfl rfl rfl (Nat.le_of_ble_eq_true rfl) dX4_clear_20 (fun H locs hP hD hS => ?_)
  have hP : va_P (dC, dI) vwCl ([(su, .inr (4, [.ref sa, .long 0, .long 0, .long 0, .long wd, .int lim])), (sa, .inl (cJ, 4, .inr (.inl g1_2)))]) H := hP
  have hD : va_D A ([(su, .inr (4, [.ref sa, .long 0, .long 0, .long 0, .long wd, .int lim])), (sa, .inl (cJ, 4, .inr (.inl g1_2)))]) := hD
  refine lv_aload_n hx hb dX4_clear_23 rfl (lv_at hl 0 rfl) ?_
  refine lv_lconst (v := 0) hx hb dX4_clear_24 (by decide) ?_
  refine my_put X hK in_X4_clear_X4 tyX4 tyX4_ok nmX4 hP hD hS 0 rfl rfl 4 (by decide) (List.mem_of_getElem? (i := 5) rfl) rfl rfl rfl (Nat.le_of_ble_eq_true rfl) dX4_clear_25 (fun H locs hP hD hS => ?_)
  have hP : va_P (dC, dI) vwCl ([(su, .inr (4, [.ref sa, .long 0, .long 0, .long 0, .long 0, .int lim])), (sa, .inl (cJ, 4, .inr (.inl g1_2)))]) H := hP
  have hD : va_D A ([(su, .inr (4, [.ref sa, .long 0, .long 0, .long 0, .long 0, .int lim])), (sa, .inl (cJ, 4, .inr (.inl g1_2)))]) := hD
  refine lv_aload_n hx hb dX4_clear_28 rfl (lv_at hl 0 rfl) ?_
  refine lv_iload_n hx hb dX4_clear_29 rfl (lv_at hl 1 rfl) ?_
  refine my_put X hK in_X4_clear_X4 tyX4 tyX4_ok nmX4 hP hD hS 0 rfl rfl 5 (by decide) (List.mem_of_getElem? (i := 6) rfl) rfl rfl rfl (Nat.le_of_ble_eq_true rfl) dX4_clear_30 (fun H locs hP hD hS => ?_)
  have hP : va_P (dC, dI) vwCl ([(su, .inr (4, [.ref sa, .long 0, .long 0, .long 0, .long 0, .int lm])), (sa, .inl (cJ, 4, .inr (.inl g1_2)))]) H := hP
  have hD : va_D A ([(su, .inr (4, [.ref sa, .long 0, .long 0, .long 0, .long 0, .int lm])), (sa, .inl (cJ, 4, .inr (.inl g1_2)))]) := hD
  exact my_vret (WSf := (fun g1 : Nat → Int64 => [(su, .inr (4, [.ref sa, .long 0, .long 0, .long 0, .long 0, .int lm])), (sa, .inl (cJ, 4, .inr (.inl g1)))])) g1_2 X (hw_1) (hP) (hD) hS (by first | decide | omega | (dsimp only; omega)) (by first | decide | omega | (dsimp only; omega)) dX4_clear_33
theorem in_X2_hasBest_X2 : ∀ w ∈ wsX20, w ∈ wsX2_hasBest := fun _ h => List.mem_cons_of_mem _ (List.mem_append_right _ h)
set_option maxHeartbeats 200000 in
set_option maxRecDepth 100000 in
theorem c_hasBest (l : Launch) (dC : Nat → ClassId) (dI : Nat → Nat → Nat) (cI cJ cO : ClassId) (pg : Nat) (bg : Int32) (fi : Int32) (go : Int32) (be : Int32) (lc : Int64) (su : Nat)  : Met l yX2_hasBest wsX2_hasBest ({ frames := 0, cells := 0, slots := 0, locals := 0 }) (va_Pc [.ref pg] (PR dC dI cI cJ cO [(pg, .inr (2, [.ref su, .int bg, .int fi, .int go, .int be, .long lc]))])) (vp_Si (fun r : Int32 => r = if be = -1 then 0 else 1)) 0 0 (fun _ => False) := by
  refine my_met (ws := wsX2_hasBest) (cc := cX2_hasBest) (maxL := 1) (ret := (some .boolean)) (by decide) rfl (Nat.le_of_ble_eq_true rfl) ?_
  intro p e s m below meth c ls X hl hv
  obtain ⟨hP, hK⟩ := hv
  obtain ⟨hx, hb, hr, hml, hown, hts, hlocks, hnm⟩ := id X
  have hl : lv_has ls 1 [(0, .ref pg)] := hl
  refine lv_aload_n hx hb dX2_hasBest_0 rfl (lv_at hl 0 rfl) ?_
  refine my_get X hK in_X2_hasBest_X2 hP 0 rfl rfl 4 (by decide) (List.mem_of_getElem? (i := 1) rfl) rfl dX2_hasBest_1 ?_
  refine lv_iconst (v := (-1)) hx hb dX2_hasBest_4 (by decide) ?_
  refine lv_icmp_eq (tgt := 12) hx hb dX2_hasBest_5 (by decide) (fun c_5 => ?_) (fun c_5 => ?_)
  · refine lv_iconst (v := 0) hx hb dX2_hasBest_12 (by decide) ?_
    exact my_zretR X rfl (by simp [c_5]) dX2_hasBest_13
  · refine lv_iconst (v := 1) hx hb dX2_hasBest_8 (by decide) ?_
    refine lv_goto (tgt := 13) hx hb dX2_hasBest_9 (by decide) ?_
    exact my_zretR X rfl (by simp [c_5]) dX2_hasBest_13
set_option maxHeartbeats 200000 in
set_option maxRecDepth 100000 in
theorem c_costOf (l : Launch) (dC : Nat → ClassId) (dI : Nat → Nat → Nat) (cI cJ cO : ClassId) (b : Int64) (q : Int32)  : Met l yX2_costOf wsX2_costOf ({ frames := 0, cells := 0, slots := 0, locals := 0 }) (va_Pc [.long b, .int q] (PR dC dI cI cJ cO [])) (vp_Sl (fun r : Int64 => r = cst b q)) 0 0 (fun _ => False) := by
  refine my_met (ws := wsX2_costOf) (cc := cX2_costOf) (maxL := 3) (ret := (some .long)) (by decide) rfl (Nat.le_of_ble_eq_true rfl) ?_
  intro p e s m below meth c ls X hl hv
  obtain ⟨hP, hK⟩ := hv
  obtain ⟨hx, hb, hr, hml, hown, hts, hlocks, hnm⟩ := id X
  have hl : lv_has ls 3 [(0, .long b), (2, .int q)] := hl
  refine lv_iload_n hx hb dX2_costOf_0 rfl (lv_at hl 1 rfl) ?_
  refine lv_sipush (v := (-10000)) hx hb dX2_costOf_1 (by decide) ?_
  refine lv_icmp_gt (tgt := 10) hx hb dX2_costOf_4 (by decide) (fun c_4 => ?_) (fun c_4 => ?_)
  · refine lv_lload_n hx hb dX2_costOf_10 rfl (lv_at hl 0 rfl) ?_
    refine lv_ldc2 (v := (10000)) hx hb hown (hts _ (List.mem_of_getElem? (i := 1) rfl)) dX2_costOf_11 ?_
    refine my_lif_ge (tgt := 25) hx hb dX2_costOf_14 dX2_costOf_15 (by decide) (fun c_14 => ?_) (fun c_14 => ?_)
    · refine lv_ldc2 (v := (100000)) hx hb hown (hts _ (List.mem_of_getElem? (i := 2) rfl)) dX2_costOf_25 ?_
      exact my_lretR X (by simp [cst, c_4, c_14]) dX2_costOf_28
    · refine lv_lload_n hx hb dX2_costOf_18 rfl (lv_at hl 0 rfl) ?_
      refine lv_iload_n hx hb dX2_costOf_19 rfl (lv_at hl 1 rfl) ?_
      refine lv_i2l (v := q.toInt64) hx hb dX2_costOf_20 rfl ?_
      refine lv_ladd hx hb dX2_costOf_21 ?_
      refine lv_goto (tgt := 28) hx hb dX2_costOf_22 (by decide) ?_
      exact my_lretR X (by simp [cst, c_4, c_14]) dX2_costOf_28
  · refine lv_iload_n hx hb dX2_costOf_7 rfl (lv_at hl 1 rfl) ?_
    refine lv_i2l (v := q.toInt64) hx hb dX2_costOf_8 rfl ?_
    exact my_lretR X (by simp [cst, c_4]) dX2_costOf_9
theorem in_X2_badnessNow_X2 : ∀ w ∈ wsX20, w ∈ wsX2_badnessNow := fun _ h => List.mem_cons_of_mem _ (List.mem_append_left _ (List.mem_append_right _ h))
theorem in_X2_badnessNow_X4 : ∀ w ∈ wsX40, w ∈ wsX2_badnessNow := fun _ h => List.mem_cons_of_mem _ (List.mem_append_right _ h)
set_option maxHeartbeats 200000 in
set_option maxRecDepth 100000 in
theorem c_badnessNow (l : Launch) (dC : Nat → ClassId) (dI : Nat → Nat → Nat) (cI cJ cO : ClassId) (pg : Nat) (bg : Int32) (fi : Int32) (go : Int32) (be : Int32) (lc : Int64) (su : Nat) (sa : Nat) (g : Nat → Int64) (z : Int64) (al : Int64) (dp : Int64) (wd : Int64) (lim : Int32)  : Met l yX2_badnessNow wsX2_badnessNow ({ frames := 1, cells := 0, slots := 0, locals := 30 }) (va_Pc [.ref pg] (PR dC dI cI cJ cO [(pg, .inr (2, [.ref su, .int bg, .int fi, .int go, .int be, .long lc])), (su, .inr (4, [.ref sa, .long z, .long al, .long dp, .long wd, .int lim])), (sa, .inl (cJ, 4, .inr (.inl g)))])) (vp_Sl (fun r : Int64 => r = bnw go (al - dp) z g)) 0 0 (fun _ => False) := by
  refine my_met (ws := wsX2_badnessNow) (cc := cX2_badnessNow) (maxL := 3) (ret := (some .long)) (by decide) rfl (Nat.le_of_ble_eq_true rfl) ?_
  intro p e s m below meth c ls X hl hv
  obtain ⟨hP, hK⟩ := hv
  obtain ⟨hx, hb, hr, hml, hown, hts, hlocks, hnm⟩ := id X
  have hl : lv_has ls 3 [(0, .ref pg)] := hl
  refine lv_aload_n hx hb dX2_badnessNow_0 rfl (lv_at hl 0 rfl) ?_
  refine my_get X hK in_X2_badnessNow_X2 hP 0 rfl rfl 3 (by decide) (List.mem_of_getElem? (i := 1) rfl) rfl dX2_badnessNow_1 ?_
  refine lv_i2l (v := go.toInt64) hx hb dX2_badnessNow_4 rfl ?_
  refine lv_aload_n hx hb dX2_badnessNow_5 rfl (lv_at hl 0 rfl) ?_
  refine my_get X hK in_X2_badnessNow_X2 hP 0 rfl rfl 0 (by decide) (List.mem_of_getElem? (i := 2) rfl) rfl dX2_badnessNow_6 ?_
  have hPc := hP.sub (ws' := [(su, .inr (4, [.ref sa, .long z, .long al, .long dp, .long wd, .int lim])), (sa, .inl (cJ, 4, .inr (.inl g)))]) [1, 2] rfl
  refine my_rdl (my_runV (n := 0) (As := []) (rest := [.long go.toInt64]) (C := RX4) X PR.blind (PR.pre hPc hK) (va_recv hK.1 hPc (ci := 4) (q0 := 0) rfl rfl) (c_total l dC dI cI cJ cO su sa g z al dp wd lim ) gX2_badnessNow_X4_total rfl rfl rfl (by decide +kernel) rfl ⟨Nat.le_of_ble_eq_true rfl, Nat.le_of_ble_eq_true rfl⟩ hl.1 rfl (Nat.le_of_ble_eq_true rfl) dX2_badnessNow_9 ⟨by first | decide | omega | (dsimp only; omega), by first | decide | omega | (dsimp only; omega)⟩) (fun r_1 hr_1 => ?_)
  subst hr_1
  refine lv_lsub hx hb dX2_badnessNow_12 ?_
  refine lv_lstore_n (lv' := [(1, .long (go.toInt64 - (al - dp))), (0, .ref pg)]) hx hb dX2_badnessNow_13 rfl hl (by decide) rfl (fun ls hl => ?_)
  refine lv_lload_n hx hb dX2_badnessNow_14 rfl (lv_at hl 0 rfl) ?_
  refine lv_lconst (v := 0) hx hb dX2_badnessNow_15 (by decide) ?_
  refine my_lif_ge (tgt := 52) hx hb dX2_badnessNow_16 dX2_badnessNow_17 (by decide) (fun c_16 => ?_) (fun c_16 => ?_)
  · refine lv_aload_n hx hb dX2_badnessNow_52 rfl (lv_at hl 1 rfl) ?_
    refine my_get X hK in_X2_badnessNow_X2 hP 0 rfl rfl 0 (by decide) (List.mem_of_getElem? (i := 2) rfl) rfl dX2_badnessNow_53 ?_
    have hPc := hP.sub (ws' := [(su, .inr (4, [.ref sa, .long z, .long al, .long dp, .long wd, .int lim])), (sa, .inl (cJ, 4, .inr (.inl g)))]) [1, 2] rfl
    refine my_rdi (my_runV (n := 0) (As := []) (rest := []) (C := RX4) X PR.blind (PR.pre hPc hK) (va_recv hK.1 hPc (ci := 4) (q0 := 0) rfl rfl) (c_highestOrder l dC dI cI cJ cO su sa g z al dp wd lim ) gX2_badnessNow_X4_highestOrder rfl rfl rfl (by decide +kernel) rfl ⟨Nat.le_of_ble_eq_true rfl, Nat.le_of_ble_eq_true rfl⟩ hl.1 rfl (Nat.le_of_ble_eq_true rfl) dX2_badnessNow_56 ⟨by first | decide | omega | (dsimp only; omega), by first | decide | omega | (dsimp only; omega)⟩) (fun r_2 hr_2 => ?_)
    subst hr_2
    refine lv_if_le (tgt := 66) hx hb dX2_badnessNow_59 (by decide) (fun c_59 => ?_) (fun c_59 => ?_)
    · refine lv_lload_n hx hb dX2_badnessNow_66 rfl (lv_at hl 0 rfl) ?_
      refine lv_aload_n hx hb dX2_badnessNow_67 rfl (lv_at hl 1 rfl) ?_
      refine my_get X hK in_X2_badnessNow_X2 hP 0 rfl rfl 0 (by decide) (List.mem_of_getElem? (i := 2) rfl) rfl dX2_badnessNow_68 ?_
      refine lv_iconst (v := 0) hx hb dX2_badnessNow_71 (by decide) ?_
      have hPc := hP.sub (ws' := [(su, .inr (4, [.ref sa, .long z, .long al, .long dp, .long wd, .int lim])), (sa, .inl (cJ, 4, .inr (.inl g)))]) [1, 2] rfl
      refine my_rdl (my_runV (n := 1) (As := [.int 0]) (rest := [.long (go.toInt64 - (al - dp))]) (C := RX4) X PR.blind (PR.pre hPc hK) (va_recv hK.1 hPc (ci := 4) (q0 := 0) rfl rfl) (c_stretchOf l dC dI cI cJ cO su sa g z al dp wd lim 0 ) gX2_badnessNow_X4_stretchOf rfl rfl rfl (by decide +kernel) rfl ⟨Nat.le_of_ble_eq_true rfl, Nat.le_of_ble_eq_true rfl⟩ hl.1 rfl (Nat.le_of_ble_eq_true rfl) dX2_badnessNow_72 ⟨by first | decide | omega | (dsimp only; omega), by first | decide | omega | (dsimp only; omega)⟩) (fun r_3 hr_3 => ?_)
      subst hr_3
      have hPc := hP.sub (ws' := []) [] rfl
      refine my_rdl (my_runSN (n := 2) (As := [.long (go.toInt64 - (al - dp)), .long (soF g 0)]) (rest := []) X hK PR.blind (PR.pre hPc hK) (c_badness l dC dI cI cJ cO (go.toInt64 - (al - dp)) (soF g 0) ) gX2_badnessNow_X5_badness_n60 rfl rfl rfl 5 rfl (List.mem_of_getElem? (i := 12) rfl) (List.mem_of_getElem? (i := 11) rfl) (by decide +kernel) rfl ⟨Nat.le_of_ble_eq_true rfl, Nat.le_of_ble_eq_true rfl⟩ hl.1 rfl (Nat.le_of_ble_eq_true rfl) dX2_badnessNow_75 ⟨by first | decide | omega | (dsimp only; omega), by first | decide | omega | (dsimp only; omega)⟩) (fun r_4 hr_4 => ?_)
      subst hr_4
      exact my_lretR X (by simp only [bnw, soF_0, c_16, c_59, if_true, if_false]) dX2_badnessNow_78
    · refine lv_lconst (v := 0) hx hb dX2_badnessNow_62 (by decide) ?_
      refine lv_goto (tgt := 78) hx hb dX2_badnessNow_63 (by decide) ?_
      exact my_lretR X (by simp only [bnw, soF_0, c_16, c_59, if_true, if_false]) dX2_badnessNow_78
  · refine lv_lload_n hx hb dX2_badnessNow_20 rfl (lv_at hl 0 rfl) ?_
    refine lv_lneg hx hb dX2_badnessNow_21 ?_
    refine lv_aload_n hx hb dX2_badnessNow_22 rfl (lv_at hl 1 rfl) ?_
    refine my_get X hK in_X2_badnessNow_X2 hP 0 rfl rfl 0 (by decide) (List.mem_of_getElem? (i := 2) rfl) rfl dX2_badnessNow_23 ?_
    refine my_getN X hK in_X2_badnessNow_X4 hP 1 rfl rfl 1 (by decide) 17 rfl rfl dX2_badnessNow_26 ?_
    refine my_lif_gt (tgt := 48) hx hb dX2_badnessNow_29 dX2_badnessNow_30 (by decide) (fun c_29 => ?_) (fun c_29 => ?_)
    · refine lv_ldc2 (v := (-1)) hx hb hown (hts _ (List.mem_of_getElem? (i := 3) rfl)) dX2_badnessNow_48 ?_
      exact my_lretR X (by simp only [bnw, soF_0, c_16, c_29, if_true, if_false]) dX2_badnessNow_51
    · refine lv_lload_n hx hb dX2_badnessNow_33 rfl (lv_at hl 0 rfl) ?_
      refine lv_lneg hx hb dX2_badnessNow_34 ?_
      refine lv_aload_n hx hb dX2_badnessNow_35 rfl (lv_at hl 1 rfl) ?_
      refine my_get X hK in_X2_badnessNow_X2 hP 0 rfl rfl 0 (by decide) (List.mem_of_getElem? (i := 2) rfl) rfl dX2_badnessNow_36 ?_
      refine my_getN X hK in_X2_badnessNow_X4 hP 1 rfl rfl 1 (by decide) 17 rfl rfl dX2_badnessNow_39 ?_
      have hPc := hP.sub (ws' := []) [] rfl
      refine my_rdl (my_runSN (n := 2) (As := [.long (-(go.toInt64 - (al - dp))), .long z]) (rest := []) X hK PR.blind (PR.pre hPc hK) (c_badness l dC dI cI cJ cO (-(go.toInt64 - (al - dp))) z ) gX2_badnessNow_X5_badness_n60 rfl rfl rfl 5 rfl (List.mem_of_getElem? (i := 12) rfl) (List.mem_of_getElem? (i := 11) rfl) (by decide +kernel) rfl ⟨Nat.le_of_ble_eq_true rfl, Nat.le_of_ble_eq_true rfl⟩ hl.1 rfl (Nat.le_of_ble_eq_true rfl) dX2_badnessNow_42 ⟨by first | decide | omega | (dsimp only; omega), by first | decide | omega | (dsimp only; omega)⟩) (fun r_5 hr_5 => ?_)
      subst hr_5
      refine lv_goto (tgt := 51) hx hb dX2_badnessNow_45 (by decide) ?_
      exact my_lretR X (by simp only [bnw, soF_0, c_16, c_29, if_true, if_false]) dX2_badnessNow_51
end
