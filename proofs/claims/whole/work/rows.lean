section
-- ===== PART A: goes FIRST, ahead of the names: the tables' words, and 'selects' of the private methods out of them =====
/-- a private method of a class that the tables say can be made, by its rows of tables_1 -/
def lw_okq (q : MethodName × Nat) : Prop := (q.1.cls ≠ "java/lang/invoke/MethodHandle" ∧ q.1.cls ≠ "java/lang/invoke/VarHandle") ∧ Cond.instantiable q.1.cls q.2 ∈ tables_1 ∧ Cond.privateMethod q.1 ∈ tables_1 ∧ Cond.instanceMethod q.1 ∈ tables_1
theorem lw_p0 : lw_okq (⟨"PageFile$OpenList", "measureDown", "(LPageFile$Item;)V"⟩, 10) := ⟨⟨by decide +kernel, by decide +kernel⟩, List.mem_of_getElem? (i := 229) (by decide +kernel), List.mem_of_getElem? (i := 347) (by decide +kernel), List.mem_of_getElem? (i := 348) (by decide +kernel)⟩
theorem lw_p1 : lw_okq (⟨"PageFile$OpenList", "measureAcross", "(LPageFile$Item;)V"⟩, 10) := ⟨⟨by decide +kernel, by decide +kernel⟩, List.mem_of_getElem? (i := 229) (by decide +kernel), List.mem_of_getElem? (i := 354) (by decide +kernel), List.mem_of_getElem? (i := 355) (by decide +kernel)⟩
theorem lw_p2 : lw_okq (⟨"PageFile", "dropBox", "(I)V"⟩, 12) := ⟨⟨by decide +kernel, by decide +kernel⟩, List.mem_of_getElem? (i := 20) (by decide +kernel), List.mem_of_getElem? (i := 420) (by decide +kernel), List.mem_of_getElem? (i := 421) (by decide +kernel)⟩
theorem lw_p3 : lw_okq (⟨"PageFile", "boxOf", "(I)LPageFile$Box;"⟩, 12) := ⟨⟨by decide +kernel, by decide +kernel⟩, List.mem_of_getElem? (i := 20) (by decide +kernel), List.mem_of_getElem? (i := 424) (by decide +kernel), List.mem_of_getElem? (i := 425) (by decide +kernel)⟩
theorem lw_p4 : lw_okq (⟨"java/lang/Throwable", "fillInStackTrace", "(I)Ljava/lang/Throwable;"⟩, 6) := ⟨⟨by decide +kernel, by decide +kernel⟩, List.mem_of_getElem? (i := 494) (by decide +kernel), List.mem_of_getElem? (i := 492) (by decide +kernel), List.mem_of_getElem? (i := 493) (by decide +kernel)⟩
theorem lw_p5 : lw_okq (⟨"PageFile", "writePage", "(LPageFile$Box;)Z"⟩, 12) := ⟨⟨by decide +kernel, by decide +kernel⟩, List.mem_of_getElem? (i := 20) (by decide +kernel), List.mem_of_getElem? (i := 540) (by decide +kernel), List.mem_of_getElem? (i := 541) (by decide +kernel)⟩
theorem lw_p6 : lw_okq (⟨"PageFile", "writeBeginning", "()V"⟩, 12) := ⟨⟨by decide +kernel, by decide +kernel⟩, List.mem_of_getElem? (i := 20) (by decide +kernel), List.mem_of_getElem? (i := 544) (by decide +kernel), List.mem_of_getElem? (i := 545) (by decide +kernel)⟩
theorem lw_p7 : lw_okq (⟨"PageFile", "writeUnits", "()V"⟩, 12) := ⟨⟨by decide +kernel, by decide +kernel⟩, List.mem_of_getElem? (i := 20) (by decide +kernel), List.mem_of_getElem? (i := 568) (by decide +kernel), List.mem_of_getElem? (i := 569) (by decide +kernel)⟩
theorem lw_p8 : lw_okq (⟨"PageFile$PageWriter", "moveTo", "(II)V"⟩, 8) := ⟨⟨by decide +kernel, by decide +kernel⟩, List.mem_of_getElem? (i := 30) (by decide +kernel), List.mem_of_getElem? (i := 582) (by decide +kernel), List.mem_of_getElem? (i := 583) (by decide +kernel)⟩
theorem lw_p9 : lw_okq (⟨"PageFile$PageWriter", "enter", "(LPageFile$Frame;LPageFile$Box;)LPageFile$Frame;"⟩, 8) := ⟨⟨by decide +kernel, by decide +kernel⟩, List.mem_of_getElem? (i := 30) (by decide +kernel), List.mem_of_getElem? (i := 601) (by decide +kernel), List.mem_of_getElem? (i := 602) (by decide +kernel)⟩
theorem lw_p10 : lw_okq (⟨"PageFile$PageWriter", "leave", "(LPageFile$Frame;)LPageFile$Frame;"⟩, 8) := ⟨⟨by decide +kernel, by decide +kernel⟩, List.mem_of_getElem? (i := 30) (by decide +kernel), List.mem_of_getElem? (i := 615) (by decide +kernel), List.mem_of_getElem? (i := 616) (by decide +kernel)⟩
theorem lw_p11 : lw_okq (⟨"PageFile$PageWriter", "writeItem", "(LPageFile$Frame;LPageFile$Item;)LPageFile$Frame;"⟩, 8) := ⟨⟨by decide +kernel, by decide +kernel⟩, List.mem_of_getElem? (i := 30) (by decide +kernel), List.mem_of_getElem? (i := 620) (by decide +kernel), List.mem_of_getElem? (i := 621) (by decide +kernel)⟩
theorem lw_p12 : lw_okq (⟨"PageFile$PageWriter", "writeRule", "(LPageFile$Frame;LPageFile$Item;)V"⟩, 8) := ⟨⟨by decide +kernel, by decide +kernel⟩, List.mem_of_getElem? (i := 30) (by decide +kernel), List.mem_of_getElem? (i := 667) (by decide +kernel), List.mem_of_getElem? (i := 668) (by decide +kernel)⟩
theorem lw_p13 : lw_okq (⟨"PageFile$PageWriter", "writeCharacter", "(LPageFile$Item;)V"⟩, 8) := ⟨⟨by decide +kernel, by decide +kernel⟩, List.mem_of_getElem? (i := 30) (by decide +kernel), List.mem_of_getElem? (i := 671) (by decide +kernel), List.mem_of_getElem? (i := 672) (by decide +kernel)⟩
theorem lw_p14 : lw_okq (⟨"PageFileModel", "isVertical", "()Z"⟩, 34) := ⟨⟨by decide +kernel, by decide +kernel⟩, List.mem_of_getElem? (i := 700) (by decide +kernel), List.mem_of_getElem? (i := 828) (by decide +kernel), List.mem_of_getElem? (i := 829) (by decide +kernel)⟩
theorem lw_p15 : lw_okq (⟨"PageFileModel", "add", "(ZIIIIII)Z"⟩, 34) := ⟨⟨by decide +kernel, by decide +kernel⟩, List.mem_of_getElem? (i := 700) (by decide +kernel), List.mem_of_getElem? (i := 837) (by decide +kernel), List.mem_of_getElem? (i := 838) (by decide +kernel)⟩
def lw_privs_1 : List (MethodName × Nat) := [(⟨"PageFile$OpenList", "measureDown", "(LPageFile$Item;)V"⟩, 10), (⟨"PageFile$OpenList", "measureAcross", "(LPageFile$Item;)V"⟩, 10), (⟨"PageFile", "dropBox", "(I)V"⟩, 12), (⟨"PageFile", "boxOf", "(I)LPageFile$Box;"⟩, 12), (⟨"java/lang/Throwable", "fillInStackTrace", "(I)Ljava/lang/Throwable;"⟩, 6), (⟨"PageFile", "writePage", "(LPageFile$Box;)Z"⟩, 12), (⟨"PageFile", "writeBeginning", "()V"⟩, 12), (⟨"PageFile", "writeUnits", "()V"⟩, 12), (⟨"PageFile$PageWriter", "moveTo", "(II)V"⟩, 8), (⟨"PageFile$PageWriter", "enter", "(LPageFile$Frame;LPageFile$Box;)LPageFile$Frame;"⟩, 8), (⟨"PageFile$PageWriter", "leave", "(LPageFile$Frame;)LPageFile$Frame;"⟩, 8), (⟨"PageFile$PageWriter", "writeItem", "(LPageFile$Frame;LPageFile$Item;)LPageFile$Frame;"⟩, 8), (⟨"PageFile$PageWriter", "writeRule", "(LPageFile$Frame;LPageFile$Item;)V"⟩, 8), (⟨"PageFile$PageWriter", "writeCharacter", "(LPageFile$Item;)V"⟩, 8), (⟨"PageFileModel", "isVertical", "()Z"⟩, 34), (⟨"PageFileModel", "add", "(ZIIIIII)Z"⟩, 34)]
theorem lw_r1 : ∀ q ∈ lw_privs_1, lw_okq q := List.forall_mem_cons.mpr ⟨lw_p0, List.forall_mem_cons.mpr ⟨lw_p1, List.forall_mem_cons.mpr ⟨lw_p2, List.forall_mem_cons.mpr ⟨lw_p3, List.forall_mem_cons.mpr ⟨lw_p4, List.forall_mem_cons.mpr ⟨lw_p5, List.forall_mem_cons.mpr ⟨lw_p6, List.forall_mem_cons.mpr ⟨lw_p7, List.forall_mem_cons.mpr ⟨lw_p8, List.forall_mem_cons.mpr ⟨lw_p9, List.forall_mem_cons.mpr ⟨lw_p10, List.forall_mem_cons.mpr ⟨lw_p11, List.forall_mem_cons.mpr ⟨lw_p12, List.forall_mem_cons.mpr ⟨lw_p13, List.forall_mem_cons.mpr ⟨lw_p14, List.forall_mem_cons.mpr ⟨lw_p15, fun _ h => absurd h List.not_mem_nil⟩⟩⟩⟩⟩⟩⟩⟩⟩⟩⟩⟩⟩⟩⟩⟩
theorem lw_p16 : lw_okq (⟨"PageFileModel", "hasRoom", "(I)Z"⟩, 34) := ⟨⟨by decide +kernel, by decide +kernel⟩, List.mem_of_getElem? (i := 700) (by decide +kernel), List.mem_of_getElem? (i := 841) (by decide +kernel), List.mem_of_getElem? (i := 842) (by decide +kernel)⟩
theorem lw_p17 : lw_okq (⟨"PageFileModel", "shelved", "()I"⟩, 34) := ⟨⟨by decide +kernel, by decide +kernel⟩, List.mem_of_getElem? (i := 700) (by decide +kernel), List.mem_of_getElem? (i := 845) (by decide +kernel), List.mem_of_getElem? (i := 846) (by decide +kernel)⟩
theorem lw_p18 : lw_okq (⟨"PageFileModel", "isBox", "(I)Z"⟩, 34) := ⟨⟨by decide +kernel, by decide +kernel⟩, List.mem_of_getElem? (i := 700) (by decide +kernel), List.mem_of_getElem? (i := 862) (by decide +kernel), List.mem_of_getElem? (i := 863) (by decide +kernel)⟩
theorem lw_p19 : lw_okq (⟨"PageFileModel", "nested", "(II)I"⟩, 34) := ⟨⟨by decide +kernel, by decide +kernel⟩, List.mem_of_getElem? (i := 700) (by decide +kernel), List.mem_of_getElem? (i := 871) (by decide +kernel), List.mem_of_getElem? (i := 872) (by decide +kernel)⟩
theorem lw_p20 : lw_okq (⟨"PageFileModel", "empty", "(I)V"⟩, 34) := ⟨⟨by decide +kernel, by decide +kernel⟩, List.mem_of_getElem? (i := 700) (by decide +kernel), List.mem_of_getElem? (i := 875) (by decide +kernel), List.mem_of_getElem? (i := 876) (by decide +kernel)⟩
theorem lw_p21 : lw_okq (⟨"PageFileModel", "start", "(I)I"⟩, 34) := ⟨⟨by decide +kernel, by decide +kernel⟩, List.mem_of_getElem? (i := 700) (by decide +kernel), List.mem_of_getElem? (i := 879) (by decide +kernel), List.mem_of_getElem? (i := 880) (by decide +kernel)⟩
theorem lw_p22 : lw_okq (⟨"PageFileModel", "move", "(II)V"⟩, 34) := ⟨⟨by decide +kernel, by decide +kernel⟩, List.mem_of_getElem? (i := 700) (by decide +kernel), List.mem_of_getElem? (i := 883) (by decide +kernel), List.mem_of_getElem? (i := 884) (by decide +kernel)⟩
theorem lw_p23 : lw_okq (⟨"PageFileModel", "make", "(II)V"⟩, 34) := ⟨⟨by decide +kernel, by decide +kernel⟩, List.mem_of_getElem? (i := 700) (by decide +kernel), List.mem_of_getElem? (i := 887) (by decide +kernel), List.mem_of_getElem? (i := 888) (by decide +kernel)⟩
theorem lw_p24 : lw_okq (⟨"PageFileModel", "isFull", "(I)Z"⟩, 34) := ⟨⟨by decide +kernel, by decide +kernel⟩, List.mem_of_getElem? (i := 700) (by decide +kernel), List.mem_of_getElem? (i := 895) (by decide +kernel), List.mem_of_getElem? (i := 896) (by decide +kernel)⟩
theorem lw_p25 : lw_okq (⟨"PageFileModel", "placeAll", "(II)V"⟩, 34) := ⟨⟨by decide +kernel, by decide +kernel⟩, List.mem_of_getElem? (i := 700) (by decide +kernel), List.mem_of_getElem? (i := 904) (by decide +kernel), List.mem_of_getElem? (i := 905) (by decide +kernel)⟩
theorem lw_p26 : lw_okq (⟨"PageFileModel", "enter", "(II)V"⟩, 34) := ⟨⟨by decide +kernel, by decide +kernel⟩, List.mem_of_getElem? (i := 700) (by decide +kernel), List.mem_of_getElem? (i := 908) (by decide +kernel), List.mem_of_getElem? (i := 909) (by decide +kernel)⟩
theorem lw_p27 : lw_okq (⟨"PageFileModel", "sized", "(J)V"⟩, 34) := ⟨⟨by decide +kernel, by decide +kernel⟩, List.mem_of_getElem? (i := 700) (by decide +kernel), List.mem_of_getElem? (i := 912) (by decide +kernel), List.mem_of_getElem? (i := 913) (by decide +kernel)⟩
theorem lw_p28 : lw_okq (⟨"PageFileModel", "writeBeginning", "()V"⟩, 34) := ⟨⟨by decide +kernel, by decide +kernel⟩, List.mem_of_getElem? (i := 700) (by decide +kernel), List.mem_of_getElem? (i := 916) (by decide +kernel), List.mem_of_getElem? (i := 917) (by decide +kernel)⟩
theorem lw_p29 : lw_okq (⟨"PageFileModel", "write", "(II)V"⟩, 34) := ⟨⟨by decide +kernel, by decide +kernel⟩, List.mem_of_getElem? (i := 700) (by decide +kernel), List.mem_of_getElem? (i := 920) (by decide +kernel), List.mem_of_getElem? (i := 921) (by decide +kernel)⟩
theorem lw_p30 : lw_okq (⟨"PageFileModel", "writeNumbers", "()V"⟩, 34) := ⟨⟨by decide +kernel, by decide +kernel⟩, List.mem_of_getElem? (i := 700) (by decide +kernel), List.mem_of_getElem? (i := 924) (by decide +kernel), List.mem_of_getElem? (i := 925) (by decide +kernel)⟩
theorem lw_p31 : lw_okq (⟨"PageFileModel", "writeAll", "(II)V"⟩, 34) := ⟨⟨by decide +kernel, by decide +kernel⟩, List.mem_of_getElem? (i := 700) (by decide +kernel), List.mem_of_getElem? (i := 930) (by decide +kernel), List.mem_of_getElem? (i := 931) (by decide +kernel)⟩
def lw_privs_2 : List (MethodName × Nat) := [(⟨"PageFileModel", "hasRoom", "(I)Z"⟩, 34), (⟨"PageFileModel", "shelved", "()I"⟩, 34), (⟨"PageFileModel", "isBox", "(I)Z"⟩, 34), (⟨"PageFileModel", "nested", "(II)I"⟩, 34), (⟨"PageFileModel", "empty", "(I)V"⟩, 34), (⟨"PageFileModel", "start", "(I)I"⟩, 34), (⟨"PageFileModel", "move", "(II)V"⟩, 34), (⟨"PageFileModel", "make", "(II)V"⟩, 34), (⟨"PageFileModel", "isFull", "(I)Z"⟩, 34), (⟨"PageFileModel", "placeAll", "(II)V"⟩, 34), (⟨"PageFileModel", "enter", "(II)V"⟩, 34), (⟨"PageFileModel", "sized", "(J)V"⟩, 34), (⟨"PageFileModel", "writeBeginning", "()V"⟩, 34), (⟨"PageFileModel", "write", "(II)V"⟩, 34), (⟨"PageFileModel", "writeNumbers", "()V"⟩, 34), (⟨"PageFileModel", "writeAll", "(II)V"⟩, 34)]
theorem lw_r2 : ∀ q ∈ lw_privs_2, lw_okq q := List.forall_mem_cons.mpr ⟨lw_p16, List.forall_mem_cons.mpr ⟨lw_p17, List.forall_mem_cons.mpr ⟨lw_p18, List.forall_mem_cons.mpr ⟨lw_p19, List.forall_mem_cons.mpr ⟨lw_p20, List.forall_mem_cons.mpr ⟨lw_p21, List.forall_mem_cons.mpr ⟨lw_p22, List.forall_mem_cons.mpr ⟨lw_p23, List.forall_mem_cons.mpr ⟨lw_p24, List.forall_mem_cons.mpr ⟨lw_p25, List.forall_mem_cons.mpr ⟨lw_p26, List.forall_mem_cons.mpr ⟨lw_p27, List.forall_mem_cons.mpr ⟨lw_p28, List.forall_mem_cons.mpr ⟨lw_p29, List.forall_mem_cons.mpr ⟨lw_p30, List.forall_mem_cons.mpr ⟨lw_p31, fun _ h => absurd h List.not_mem_nil⟩⟩⟩⟩⟩⟩⟩⟩⟩⟩⟩⟩⟩⟩⟩⟩
theorem lw_p32 : lw_okq (⟨"PageFileModel", "leave", "()V"⟩, 34) := ⟨⟨by decide +kernel, by decide +kernel⟩, List.mem_of_getElem? (i := 700) (by decide +kernel), List.mem_of_getElem? (i := 934) (by decide +kernel), List.mem_of_getElem? (i := 935) (by decide +kernel)⟩
theorem lw_p33 : lw_okq (⟨"PageFileModel", "goTo", "(II)V"⟩, 34) := ⟨⟨by decide +kernel, by decide +kernel⟩, List.mem_of_getElem? (i := 700) (by decide +kernel), List.mem_of_getElem? (i := 938) (by decide +kernel), List.mem_of_getElem? (i := 939) (by decide +kernel)⟩
theorem lw_p34 : lw_okq (⟨"PageFileModel", "go", "(II)V"⟩, 34) := ⟨⟨by decide +kernel, by decide +kernel⟩, List.mem_of_getElem? (i := 700) (by decide +kernel), List.mem_of_getElem? (i := 942) (by decide +kernel), List.mem_of_getElem? (i := 943) (by decide +kernel)⟩
theorem lw_p35 : lw_okq (⟨"PageFileModel", "writeCharacter", "(I)V"⟩, 34) := ⟨⟨by decide +kernel, by decide +kernel⟩, List.mem_of_getElem? (i := 700) (by decide +kernel), List.mem_of_getElem? (i := 952) (by decide +kernel), List.mem_of_getElem? (i := 953) (by decide +kernel)⟩
theorem lw_p36 : lw_okq (⟨"PageFileModel", "writeFont", "(I)V"⟩, 34) := ⟨⟨by decide +kernel, by decide +kernel⟩, List.mem_of_getElem? (i := 700) (by decide +kernel), List.mem_of_getElem? (i := 956) (by decide +kernel), List.mem_of_getElem? (i := 957) (by decide +kernel)⟩
theorem lw_p37 : lw_okq (⟨"PageFileModel", "boxOf", "(II)I"⟩, 34) := ⟨⟨by decide +kernel, by decide +kernel⟩, List.mem_of_getElem? (i := 700) (by decide +kernel), List.mem_of_getElem? (i := 960) (by decide +kernel), List.mem_of_getElem? (i := 961) (by decide +kernel)⟩
theorem lw_p38 : lw_okq (⟨"PageFileModel", "writeRule", "(III)V"⟩, 34) := ⟨⟨by decide +kernel, by decide +kernel⟩, List.mem_of_getElem? (i := 700) (by decide +kernel), List.mem_of_getElem? (i := 964) (by decide +kernel), List.mem_of_getElem? (i := 965) (by decide +kernel)⟩
def lw_privs_3 : List (MethodName × Nat) := [(⟨"PageFileModel", "leave", "()V"⟩, 34), (⟨"PageFileModel", "goTo", "(II)V"⟩, 34), (⟨"PageFileModel", "go", "(II)V"⟩, 34), (⟨"PageFileModel", "writeCharacter", "(I)V"⟩, 34), (⟨"PageFileModel", "writeFont", "(I)V"⟩, 34), (⟨"PageFileModel", "boxOf", "(II)I"⟩, 34), (⟨"PageFileModel", "writeRule", "(III)V"⟩, 34)]
theorem lw_r3 : ∀ q ∈ lw_privs_3, lw_okq q := List.forall_mem_cons.mpr ⟨lw_p32, List.forall_mem_cons.mpr ⟨lw_p33, List.forall_mem_cons.mpr ⟨lw_p34, List.forall_mem_cons.mpr ⟨lw_p35, List.forall_mem_cons.mpr ⟨lw_p36, List.forall_mem_cons.mpr ⟨lw_p37, List.forall_mem_cons.mpr ⟨lw_p38, fun _ h => absurd h List.not_mem_nil⟩⟩⟩⟩⟩⟩⟩
def lw_privs : List (MethodName × Nat) := lw_privs_1 ++ (lw_privs_2 ++ (lw_privs_3))
def lw_tbl : List Cond := k2_sels lw_privs ++ tables_1
theorem lw_privs_ok : ∀ q ∈ lw_privs, lw_okq q := by
  show ∀ q ∈ lw_privs_1 ++ (lw_privs_2 ++ (lw_privs_3)), lw_okq q
  exact List.forall_mem_append.mpr ⟨lw_r1, List.forall_mem_append.mpr ⟨lw_r2, lw_r3⟩⟩
end
section
/-! The world as a map from addresses to cells: M a = some e, the cell at a is e. Over the kit's pools. -/
def mg (M : Nat → Option va_E) : Nat → va_E := fun a => (M a).getD (.inr (0, []))
def mw (D : va_G) (cl : List vw_C) (A : Nat → Prop) (M : Nat → Option va_E) (H : Heap) : Prop := ∃ L : List Nat, (∀ a, a ∈ L ↔ M a ≠ none) ∧ va_P D cl (va_pl L (mg M)) H ∧ va_D A (va_pl L (mg M))
def mu (M : Nat → Option va_E) (a : Nat) (e : va_E) : Nat → Option va_E := va_up M a (some e)
theorem mu_self (M : Nat → Option va_E) (a : Nat) (e : va_E) : mu M a e a = some e := va_up_self _ _ _
theorem mu_ne (M : Nat → Option va_E) {a b : Nat} (e : va_E) (h : b ≠ a) : mu M a e b = M b := va_up_ne _ _ h
theorem mg_mu (M : Nat → Option va_E) (a : Nat) (e : va_E) : mg (mu M a e) = va_up (mg M) a e := by
  funext b
  by_cases h : b = a
  · subst h; rw [va_up_self]; unfold mg; rw [mu_self]; rfl
  · rw [va_up_ne _ _ h]; unfold mg; rw [mu_ne _ _ h]
theorem mw_mu {M : Nat → Option va_E} {L : List Nat} {a : Nat} {e : va_E} (hL : ∀ b, b ∈ L ↔ M b ≠ none) (ha : a ∈ L) : ∀ b, b ∈ L ↔ mu M a e b ≠ none := by
  intro b
  by_cases h : b = a
  · subst h; rw [mu_self]; exact ⟨fun _ q => (by cases q), fun _ => ha⟩
  · rw [mu_ne _ _ h]; exact hL b
theorem mw_mu_new {M : Nat → Option va_E} {L : List Nat} {a : Nat} {e : va_E} (hL : ∀ b, b ∈ L ↔ M b ≠ none) : ∀ b, b ∈ L ++ [a] ↔ mu M a e b ≠ none := by
  intro b
  by_cases h : b = a
  · subst h; rw [mu_self]; exact ⟨fun _ q => (by cases q), fun _ => List.mem_append_right _ List.mem_cons_self⟩
  · rw [mu_ne _ _ h, ← hL b]
    constructor
    · intro q
      rcases List.mem_append.mp q with q | q
      · exact q
      · exact absurd (List.mem_singleton.mp q) h
    · exact fun q => List.mem_append_left _ q
theorem mw_in {D : va_G} {cl : List vw_C} {A : Nat → Prop} {M : Nat → Option va_E} {H : Heap} (h : mw D cl A M H) {a : Nat} {e : va_E} (ha : M a = some e) : A a := by
  obtain ⟨L, hL, hP, hD⟩ := h
  obtain ⟨k, hk⟩ := va_pl_get (X := []) (f := mg M) ((hL a).mpr (by rw [ha]; exact fun q => by cases q))
  exact hD.2 k _ hk
theorem mw_lt {D : va_G} {cl : List vw_C} {A : Nat → Prop} {M : Nat → Option va_E} {H : Heap} (h : mw D cl A M H) {a : Nat} {e : va_E} (ha : M a = some e) : a < H.size := by
  obtain ⟨L, hL, hP, hD⟩ := h
  exact va_pl_lt (X := []) hP ((hL a).mpr (by rw [ha]; exact fun q => by cases q))
/-- one cell of the world, as the kit's rows ask for it -/
theorem mw_one {D : va_G} {cl : List vw_C} {A : Nat → Prop} {M : Nat → Option va_E} {H : Heap} (h : mw D cl A M H) {a : Nat} {e : va_E} (ha : M a = some e) : va_P D cl [(a, e)] H := by
  obtain ⟨L, hL, hP, hD⟩ := h
  obtain ⟨k, hk⟩ := va_pl_get (X := []) (f := mg M) ((hL a).mpr (by rw [ha]; exact fun q => by cases q))
  have hk2 : (va_pl L (mg M))[k]? = some (a, e) := by
    have : mg M a = e := by unfold mg; rw [ha]; rfl
    rw [← this]; exact hk
  exact hP.by (fun _ => k) (fun j q hj => by
    match j, hj with
    | 0, hj => cases hj; exact hk2
    | j + 1, hj => simp at hj)
/-- as a list, with the place of one cell -/
theorem mw_open {D : va_G} {cl : List vw_C} {A : Nat → Prop} {M : Nat → Option va_E} {H : Heap} (h : mw D cl A M H) {a : Nat} {e : va_E} (ha : M a = some e) : ∃ (ws : va_W) (k : Nat), va_P D cl ws H ∧ va_D A ws ∧ ws[k]? = some (a, e) ∧ ∀ (e' : va_E) (H1 : Heap), va_P D cl (ws.set k (a, e')) H1 → va_D A (ws.set k (a, e')) → mw D cl A (mu M a e') H1 := by
  obtain ⟨L, hL, hP, hD⟩ := h
  have hm : a ∈ L := (hL a).mpr (by rw [ha]; exact fun q => by cases q)
  obtain ⟨k, hk⟩ := va_pl_get (X := []) (f := mg M) hm
  have hg : mg M a = e := by unfold mg; rw [ha]; rfl
  refine ⟨va_pl L (mg M), k, hP, hD, by rw [← hg]; exact hk, fun e' H1 hP1 hD1 => ⟨L, mw_mu hL hm, ?_, ?_⟩⟩
  · have h2 := va_pl_set (X := []) (f := mg M) (e := e') hD hm hk
    rw [mg_mu, ← (show (va_pl L (mg M)).set k (a, e') = va_pl L (va_up (mg M) a e') from h2)]; exact hP1
  · have h2 := va_pl_set (X := []) (f := mg M) (e := e') hD hm hk
    rw [mg_mu, ← (show (va_pl L (mg M)).set k (a, e') = va_pl L (va_up (mg M) a e') from h2)]; exact hD1
/-- as a list, for a cell to be made -/
theorem mw_open_new {D : va_G} {cl : List vw_C} {A : Nat → Prop} {M : Nat → Option va_E} {H : Heap} (h : mw D cl A M H) : ∃ ws : va_W, va_P D cl ws H ∧ va_D A ws ∧ ∀ (q : Nat) (e' : va_E) (H1 : Heap), va_P D cl (ws ++ [(q, e')]) H1 → va_D A (ws ++ [(q, e')]) → M q = none ∧ mw D cl A (mu M q e') H1 := by
  obtain ⟨L, hL, hP, hD⟩ := h
  refine ⟨va_pl L (mg M), hP, hD, fun q e' H1 hP1 hD1 => ?_⟩
  have hq : q ∉ L := va_pl_fresh2 (X := []) hD1
  refine ⟨Classical.byContradiction fun z => hq ((hL q).mpr z), L ++ [q], mw_mu_new hL, ?_, ?_⟩
  · rw [mg_mu, ← va_pl_push hq]; exact hP1
  · rw [mg_mu, ← va_pl_push hq]; exact hD1
section MW
variable {p : Program} {l : Launch} {e : Env} {R : Room} {s : State} {m : MethodId} {args : Array Value} {below : List Frame} {meth : Method} {c : Code} {H : Heap} {locs : List Loc} {cells slots : Nat} {Q : State → Prop}
variable {cc : ByteArray} {pc : Nat} {ls : Array Slot} {rest : List Value} {D : va_G} {cl : List vw_C} {A : Nat → Prop} {a : Nat} {tys : List (ClassId × FieldType)} {M : Nat → Option va_E} {H0 : Heap} {nL : Nat} {Ts : List Cond} {own : String}
theorem mw_get (S : CallFix p m c cc nL s args Ts own) (hK : va_K D cl tys s) (hM : mw D cl A M H) {C ref : String} {T : u_T} {N ci index : Nat} (hin : ∀ w ∈ u_ws C T N, w ∈ Ts) {fs : List Value} (he : M a = some (.inr (ci, fs))) (hc : cl[ci]? = some (C, T, N)) (k : Nat) (hk : k < N) (hlink : (Cond.fieldLink own index ref (T k).2.1 (T k).2.2.1).before args s = true) (hsame : ∀ x, s.fieldFound? (T k).1 (T k).2.1 (T k).2.2.1 = some x → s.fieldFound? ref (T k).2.1 (T k).2.2.1 = some x) {v : Value} (hv : fs[k]? = some v) (hdg : decode cc pc = .ok (.getfield index, 3))
    (kk : W p l e R s m args below meth c H locs cells slots Q (F0 m (pc + 3) ls (v :: rest))) : W p l e R s m args below meth c H locs cells slots Q (F0 m pc ls (.ref a :: rest)) :=
  va_get S.1 S.2.1 S.2.2.2.2 hin S.2.2.2.1 hK (mw_one hM he) 0 rfl hc k hk hlink hsame hv hdg kk
theorem mw_getN (S : CallFix p m c cc nL s args Ts own) (hK : va_K D cl tys s) (hM : mw D cl A M H) {C ref host : String} {T : u_T} {N ci index : Nat} (hin : ∀ w ∈ u_ws C T N, w ∈ Ts) {fs : List Value} (he : M a = some (.inr (ci, fs))) (hc : cl[ci]? = some (C, T, N)) (k : Nat) (hk : k < N) (hlink : (Cond.fieldLinkNest own index ref (T k).2.1 (T k).2.2.1 host).before args s = true) (hsame : ∀ x, s.fieldFound? (T k).1 (T k).2.1 (T k).2.2.1 = some x → s.fieldFound? ref (T k).2.1 (T k).2.2.1 = some x) {v : Value} (hv : fs[k]? = some v) (hdg : decode cc pc = .ok (.getfield index, 3))
    (kk : W p l e R s m args below meth c H locs cells slots Q (F0 m (pc + 3) ls (v :: rest))) : W p l e R s m args below meth c H locs cells slots Q (F0 m pc ls (.ref a :: rest)) :=
  va_getN S.1 S.2.1 S.2.2.2.2 hin S.2.2.2.1 hK (mw_one hM he) 0 rfl hc k hk hlink hsame hv hdg kk
theorem mw_put (S : CallFix p m c cc nL s args Ts own) (hK : va_K D cl tys s) (hM : mw D cl A M H) (hS : va_S A H0 H locs) {C ref : String} {T : u_T} {N ci index : Nat} (hin : ∀ w ∈ u_ws C T N, w ∈ Ts) (ty0 : Nat → FieldType) (hty : ∀ k, k < N → parseFieldDescriptor (T k).2.2.1 = some (ty0 k)) (hnm : ∀ a, a < N → ∀ b, b < N → a ≠ b → (T a).2.1 ≠ (T b).2.1) {fs : List Value} (he : M a = some (.inr (ci, fs))) (hc : cl[ci]? = some (C, T, N)) (k : Nat) (hk : k < N) (hlink : (Cond.fieldLink own index ref (T k).2.1 (T k).2.2.1).before args s = true) (hsame : ∀ x, s.fieldFound? (T k).1 (T k).2.1 (T k).2.2.1 = some x → s.fieldFound? ref (T k).2.1 (T k).2.2.1 = some x) (hfin : (T k).2.2.2 = false) {ty : FieldType} {v : Value} (hd : parseFieldDescriptor (T k).2.2.1 = some ty) (hn : narrow ty v = v) (hfit : fits ty v = true) (hl : k < fs.length) (hdg : decode cc pc = .ok (.putfield index, 3))
    (kk : ∀ (H1 : Heap) (locs1 : List Loc), mw D cl A (mu M a (.inr (ci, fs.set k v))) H1 → va_S A H0 H1 locs1 → W p l e R s m args below meth c H1 locs1 cells slots Q (F0 m (pc + 3) ls rest)) : W p l e R s m args below meth c H locs cells slots Q (F0 m pc ls (v :: .ref a :: rest)) := by
  obtain ⟨ws, j, hP, hD, hj, hb⟩ := mw_open hM he
  exact va_put S.1 S.2.1 S.2.2.2.2 hin ty0 hty hnm S.2.2.2.1 hK hP hD hS j hj hc k hk hlink hsame hfin hd hn hfit hl hdg (fun H1 locs1 hP1 hD1 hS1 => kk H1 locs1 (hb _ H1 hP1 hD1) hS1)
theorem mw_putF (S : CallFix p m c cc nL s args Ts own) (hK : va_K D cl tys s) (hM : mw D cl A M H) (hS : va_S A H0 H locs) {C ref : String} {T : u_T} {N ci index : Nat} (hin : ∀ w ∈ u_ws C T N, w ∈ Ts) (ty0 : Nat → FieldType) (hty : ∀ k, k < N → parseFieldDescriptor (T k).2.2.1 = some (ty0 k)) (hnm : ∀ a, a < N → ∀ b, b < N → a ≠ b → (T a).2.1 ≠ (T b).2.1) {fs : List Value} (he : M a = some (.inr (ci, fs))) (hc : cl[ci]? = some (C, T, N)) (k : Nat) (hk : k < N) (hlink : (Cond.fieldLink own index ref (T k).2.1 (T k).2.2.1).before args s = true) (hsame : ∀ x, s.fieldFound? (T k).1 (T k).2.1 (T k).2.2.1 = some x → s.fieldFound? ref (T k).2.1 (T k).2.2.1 = some x) (hfin : (T k).2.2.2 = true) (hin2 : meth.name = "<init>") (hdecl : (T k).1 = own) {ty : FieldType} {v : Value} (hd : parseFieldDescriptor (T k).2.2.1 = some ty) (hn : narrow ty v = v) (hfit : fits ty v = true) (hl : k < fs.length) (hdg : decode cc pc = .ok (.putfield index, 3))
    (kk : ∀ (H1 : Heap) (locs1 : List Loc), mw D cl A (mu M a (.inr (ci, fs.set k v))) H1 → va_S A H0 H1 locs1 → W p l e R s m args below meth c H1 locs1 cells slots Q (F0 m (pc + 3) ls rest)) : W p l e R s m args below meth c H locs cells slots Q (F0 m pc ls (v :: .ref a :: rest)) := by
  obtain ⟨ws, j, hP, hD, hj, hb⟩ := mw_open hM he
  exact va_putF S.1 S.2.1 S.2.2.2.2 hin ty0 hty hnm S.2.2.2.1 hK hP hD hS j hj hc k hk hlink hsame hfin hin2 hdecl hd hn hfit hl hdg (fun H1 locs1 hP1 hD1 hS1 => kk H1 locs1 (hb _ H1 hP1 hD1) hS1)
theorem mw_putN (S : CallFix p m c cc nL s args Ts own) (hK : va_K D cl tys s) (hM : mw D cl A M H) (hS : va_S A H0 H locs) {C ref host : String} {T : u_T} {N ci index : Nat} (hin : ∀ w ∈ u_ws C T N, w ∈ Ts) (ty0 : Nat → FieldType) (hty : ∀ k, k < N → parseFieldDescriptor (T k).2.2.1 = some (ty0 k)) (hnm : ∀ a, a < N → ∀ b, b < N → a ≠ b → (T a).2.1 ≠ (T b).2.1) {fs : List Value} (he : M a = some (.inr (ci, fs))) (hc : cl[ci]? = some (C, T, N)) (k : Nat) (hk : k < N) (hlink : (Cond.fieldLinkNest own index ref (T k).2.1 (T k).2.2.1 host).before args s = true) (hsame : ∀ x, s.fieldFound? (T k).1 (T k).2.1 (T k).2.2.1 = some x → s.fieldFound? ref (T k).2.1 (T k).2.2.1 = some x) (hfin : (T k).2.2.2 = false) {ty : FieldType} {v : Value} (hd : parseFieldDescriptor (T k).2.2.1 = some ty) (hn : narrow ty v = v) (hfit : fits ty v = true) (hl : k < fs.length) (hdg : decode cc pc = .ok (.putfield index, 3))
    (kk : ∀ (H1 : Heap) (locs1 : List Loc), mw D cl A (mu M a (.inr (ci, fs.set k v))) H1 → va_S A H0 H1 locs1 → W p l e R s m args below meth c H1 locs1 cells slots Q (F0 m (pc + 3) ls rest)) : W p l e R s m args below meth c H locs cells slots Q (F0 m pc ls (v :: .ref a :: rest)) := by
  obtain ⟨ws, j, hP, hD, hj, hb⟩ := mw_open hM he
  exact va_putN S.1 S.2.1 S.2.2.2.2 hin ty0 hty hnm S.2.2.2.1 hK hP hD hS j hj hc k hk hlink hsame hfin hd hn hfit hl hdg (fun H1 locs1 hP1 hD1 hS1 => kk H1 locs1 (hb _ H1 hP1 hD1) hS1)
theorem mw_iald (S : CallFix p m c cc nL s args Ts own) (hK : va_K D cl tys s) (hM : mw D cl A M H) (t0 : Nat) {cA : ClassId} {n : Nat} {f : Nat → Int32} (ha : M a = some (.inl (cA, n, .inl f))) (ht : tys[t0]? = some (cA, .int)) {i : Int32} (hin : vp_in i n) (hdg : decode cc pc = .ok (.iaload, 1))
    (kk : W p l e R s m args below meth c H locs cells slots Q (F0 m (pc + 1) ls (.int (f i.toNatClampNeg) :: rest))) : W p l e R s m args below meth c H locs cells slots Q (F0 m pc ls (.int i :: .ref a :: rest)) :=
  va_iald S.1 S.2.1 hK (mw_one hM ha) 0 t0 rfl ht hin hdg kk
theorem mw_bald (S : CallFix p m c cc nL s args Ts own) (hK : va_K D cl tys s) (hM : mw D cl A M H) (t0 : Nat) {cA : ClassId} {n : Nat} {f : Nat → Int32} (ha : M a = some (.inl (cA, n, .inl f))) (ht : tys[t0]? = some (cA, .byte)) {i : Int32} (hin : vp_in i n) (hdg : decode cc pc = .ok (.baload, 1))
    (kk : W p l e R s m args below meth c H locs cells slots Q (F0 m (pc + 1) ls (.int (f i.toNatClampNeg) :: rest))) : W p l e R s m args below meth c H locs cells slots Q (F0 m pc ls (.int i :: .ref a :: rest)) :=
  va_bald S.1 S.2.1 hK (mw_one hM ha) 0 t0 rfl ht hin hdg kk
theorem mw_zald (S : CallFix p m c cc nL s args Ts own) (hK : va_K D cl tys s) (hM : mw D cl A M H) (t0 : Nat) {cA : ClassId} {n : Nat} {f : Nat → Int32} (ha : M a = some (.inl (cA, n, .inl f))) (ht : tys[t0]? = some (cA, .boolean)) {i : Int32} (hin : vp_in i n) (hdg : decode cc pc = .ok (.baload, 1))
    (kk : W p l e R s m args below meth c H locs cells slots Q (F0 m (pc + 1) ls (.int (f i.toNatClampNeg) :: rest))) : W p l e R s m args below meth c H locs cells slots Q (F0 m pc ls (.int i :: .ref a :: rest)) :=
  va_zald S.1 S.2.1 hK (mw_one hM ha) 0 t0 rfl ht hin hdg kk
theorem mw_lald (S : CallFix p m c cc nL s args Ts own) (hK : va_K D cl tys s) (hM : mw D cl A M H) (t0 : Nat) {cA : ClassId} {n : Nat} {f : Nat → Int64} (ha : M a = some (.inl (cA, n, .inr (.inl f)))) (ht : tys[t0]? = some (cA, .long)) {i : Int32} (hin : vp_in i n) (hdg : decode cc pc = .ok (.laload, 1))
    (kk : W p l e R s m args below meth c H locs cells slots Q (F0 m (pc + 1) ls (.long (f i.toNatClampNeg) :: rest))) : W p l e R s m args below meth c H locs cells slots Q (F0 m pc ls (.int i :: .ref a :: rest)) :=
  va_lald S.1 S.2.1 hK (mw_one hM ha) 0 t0 rfl ht hin hdg kk
theorem mw_aldq (S : CallFix p m c cc nL s args Ts own) (hK : va_K D cl tys s) (hM : mw D cl A M H) (t0 : Nat) {cA : ClassId} {C : String} {n : Nat} {f : Nat → Option Nat} (ha : M a = some (.inl (cA, n, .inr (.inr (.inr (.inr f)))))) (ht : tys[t0]? = some (cA, .object C)) {i : Int32} (hin : vp_in i n) (hdg : decode cc pc = .ok (.aaload, 1))
    (kk : W p l e R s m args below meth c H locs cells slots Q (F0 m (pc + 1) ls (va_rf (f i.toNatClampNeg) :: rest))) : W p l e R s m args below meth c H locs cells slots Q (F0 m pc ls (.int i :: .ref a :: rest)) :=
  va_aldq S.1 S.2.1 hK (mw_one hM ha) 0 t0 rfl ht hin hdg kk
theorem mw_alen (S : CallFix p m c cc nL s args Ts own) (hK : va_K D cl tys s) (hM : mw D cl A M H) (t0 : Nat) {cA : ClassId} {x : vp_A} (ha : M a = some (.inl (cA, x))) {ty : FieldType} (ht : tys[t0]? = some (cA, ty)) {v : Int32} (hv : Int32.ofNat x.1 = v) (hdg : decode cc pc = .ok (.arraylength, 1))
    (kk : W p l e R s m args below meth c H locs cells slots Q (F0 m (pc + 1) ls (.int v :: rest))) : W p l e R s m args below meth c H locs cells slots Q (F0 m pc ls (.ref a :: rest)) :=
  va_alen S.1 S.2.1 hK (mw_one hM ha) 0 t0 rfl ht hv hdg kk
theorem mw_iast (S : CallFix p m c cc nL s args Ts own) (hK : va_K D cl tys s) (hM : mw D cl A M H) (hS : va_S A H0 H locs) (t0 : Nat) {cA : ClassId} {n : Nat} {f : Nat → Int32} (ha : M a = some (.inl (cA, n, .inl f))) (ht : tys[t0]? = some (cA, .int)) {i : Int32} {x : Int32} (hin : vp_in i n) (hdg : decode cc pc = .ok (.iastore, 1))
    (kk : ∀ (H1 : Heap) (locs1 : List Loc), mw D cl A (mu M a (.inl (cA, n, .inl (upd f i.toNatClampNeg (vp_nar .int x))))) H1 → va_S A H0 H1 locs1 → W p l e R s m args below meth c H1 locs1 cells slots Q (F0 m (pc + 1) ls rest)) : W p l e R s m args below meth c H locs cells slots Q (F0 m pc ls (.int x :: .int i :: .ref a :: rest)) := by
  obtain ⟨ws, j, hP, hD, hj, hb⟩ := mw_open hM ha
  exact va_iast S.1 S.2.1 hK hP hD hS j t0 hj ht hin hdg (fun H1 locs1 hP1 hD1 hS1 => kk H1 locs1 (hb _ H1 hP1 hD1) hS1)
theorem mw_bast (S : CallFix p m c cc nL s args Ts own) (hK : va_K D cl tys s) (hM : mw D cl A M H) (hS : va_S A H0 H locs) (t0 : Nat) {cA : ClassId} {n : Nat} {f : Nat → Int32} (ha : M a = some (.inl (cA, n, .inl f))) (ht : tys[t0]? = some (cA, .byte)) {i : Int32} {x : Int32} (hin : vp_in i n) (hdg : decode cc pc = .ok (.bastore, 1))
    (kk : ∀ (H1 : Heap) (locs1 : List Loc), mw D cl A (mu M a (.inl (cA, n, .inl (upd f i.toNatClampNeg (vp_nar .byte x))))) H1 → va_S A H0 H1 locs1 → W p l e R s m args below meth c H1 locs1 cells slots Q (F0 m (pc + 1) ls rest)) : W p l e R s m args below meth c H locs cells slots Q (F0 m pc ls (.int x :: .int i :: .ref a :: rest)) := by
  obtain ⟨ws, j, hP, hD, hj, hb⟩ := mw_open hM ha
  exact va_bast S.1 S.2.1 hK hP hD hS j t0 hj ht hin hdg (fun H1 locs1 hP1 hD1 hS1 => kk H1 locs1 (hb _ H1 hP1 hD1) hS1)
theorem mw_zast (S : CallFix p m c cc nL s args Ts own) (hK : va_K D cl tys s) (hM : mw D cl A M H) (hS : va_S A H0 H locs) (t0 : Nat) {cA : ClassId} {n : Nat} {f : Nat → Int32} (ha : M a = some (.inl (cA, n, .inl f))) (ht : tys[t0]? = some (cA, .boolean)) {i : Int32} {x : Int32} (hin : vp_in i n) (hdg : decode cc pc = .ok (.bastore, 1))
    (kk : ∀ (H1 : Heap) (locs1 : List Loc), mw D cl A (mu M a (.inl (cA, n, .inl (upd f i.toNatClampNeg (vp_nar .boolean x))))) H1 → va_S A H0 H1 locs1 → W p l e R s m args below meth c H1 locs1 cells slots Q (F0 m (pc + 1) ls rest)) : W p l e R s m args below meth c H locs cells slots Q (F0 m pc ls (.int x :: .int i :: .ref a :: rest)) := by
  obtain ⟨ws, j, hP, hD, hj, hb⟩ := mw_open hM ha
  exact va_zast S.1 S.2.1 hK hP hD hS j t0 hj ht hin hdg (fun H1 locs1 hP1 hD1 hS1 => kk H1 locs1 (hb _ H1 hP1 hD1) hS1)
theorem mw_astqN (S : CallFix p m c cc nL s args Ts own) (hK : va_K D cl tys s) (hM : mw D cl A M H) (hS : va_S A H0 H locs) (t0 : Nat) {cA : ClassId} {C : String} {n : Nat} {f : Nat → Option Nat} (ha : M a = some (.inl (cA, n, .inr (.inr (.inr (.inr f)))))) (ht : tys[t0]? = some (cA, .object C)) {i : Int32} (hin : vp_in i n) (hdg : decode cc pc = .ok (.aastore, 1))
    (kk : ∀ (H1 : Heap) (locs1 : List Loc), mw D cl A (mu M a (.inl (cA, n, .inr (.inr (.inr (.inr (va_up f i.toNatClampNeg none))))))) H1 → va_S A H0 H1 locs1 → W p l e R s m args below meth c H1 locs1 cells slots Q (F0 m (pc + 1) ls rest)) : W p l e R s m args below meth c H locs cells slots Q (F0 m pc ls (.null :: .int i :: .ref a :: rest)) := by
  obtain ⟨ws, j, hP, hD, hj, hb⟩ := mw_open hM ha
  exact va_astqN S.1 S.2.1 hK hP hD hS j t0 hj ht hin hdg (fun H1 locs1 hP1 hD1 hS1 => kk H1 locs1 (hb _ H1 hP1 hD1) hS1)
theorem mw_new (S : CallFix p m c cc nL s args Ts own) (hK : va_K D cl tys s) (hM : mw D cl A M H) (hS : va_S A H0 H locs) (hA : ∀ q, H0.size ≤ q → A q) {C : String} {T : u_T} {N ci index : Nat} (hin : ∀ w ∈ u_ws C T N, w ∈ Ts) (ty : Nat → FieldType) (hty : ∀ k, k < N → parseFieldDescriptor (T k).2.2.1 = some (ty k)) (hcl : (Cond.classLink own index C).before args s = true) (hinst : (Cond.instantiable C N).before args s = true) (hini : (Cond.initialized C).before args s = true) (hc : cl[ci]? = some (C, T, N)) {fs : List Value} (hfs : ∀ j, j < N → defaultValue (ty j) = vp_V fs j) (hcells : cells + 1 ≤ R.cells) (hslots : slots + N ≤ R.slots) (hdg : decode cc pc = .ok (.new index, 3))
    (kk : ∀ (q : Nat) (H1 : Heap), M q = none → mw D cl A (mu M q (.inr (ci, fs))) H1 → va_S A H0 H1 locs → W p l e R s m args below meth c H1 locs (cells + 1) (slots + N) Q (F0 m (pc + 3) ls (.ref q :: rest))) : W p l e R s m args below meth c H locs cells slots Q (F0 m pc ls rest) := by
  obtain ⟨ws, hP, hD, hb⟩ := mw_open_new hM
  exact va_new S.1 S.2.1 S.2.2.2.2 hin ty hty S.2.2.2.1 hcl hinst hini hK hP hD hS hA hc hfs hcells hslots hdg (fun q H1 hP1 hD1 hS1 => kk q H1 (hb q _ H1 hP1 hD1).1 (hb q _ H1 hP1 hD1).2 hS1)
end MW
end
section
def R_PF : String := "PageFile"
def T_PF : u_T := fun k => match k with
  | 0 => ("PageFile", "registers", "[LPageFile$Box;", true)
  | 1 => ("PageFile", "writer", "LPageFile$PageWriter;", true)
  | 2 => ("PageFile", "out", "LPageFile$Bytes;", true)
  | 3 => ("PageFile", "fonts", "LPageFile$Fonts;", true)
  | 4 => ("PageFile", "innermost", "LPageFile$OpenList;", false)
  | 5 => ("PageFile", "items", "I", false)
  | 6 => ("PageFile", "pages", "I", false)
  | 7 => ("PageFile", "lastPage", "I", false)
  | 8 => ("PageFile", "tallest", "I", false)
  | 9 => ("PageFile", "widest", "I", false)
  | 10 => ("PageFile", "deepest", "I", false)
  | _ => ("PageFile", "ended", "Z", false)
def ty_PF : Nat → FieldType := fun k => match k with
  | 0 => .array (.object "PageFile$Box")
  | 1 => .object "PageFile$PageWriter"
  | 2 => .object "PageFile$Bytes"
  | 3 => .object "PageFile$Fonts"
  | 4 => .object "PageFile$OpenList"
  | 5 => .int
  | 6 => .int
  | 7 => .int
  | 8 => .int
  | 9 => .int
  | 10 => .int
  | _ => .boolean
theorem nm_PF : ∀ a, a < 12 → ∀ b, b < 12 → a ≠ b → (T_PF a).2.1 ≠ (T_PF b).2.1 := by decide +kernel
theorem ok_PF : ∀ k, k < 12 → parseFieldDescriptor (T_PF k).2.2.1 = some (ty_PF k) := by decide +kernel
def R_Box : String := "PageFile$Box"
def T_Box : u_T := fun k => match k with
  | 0 => ("PageFile$Box", "vertical", "Z", true)
  | 1 => ("PageFile$Box", "width", "I", true)
  | 2 => ("PageFile$Box", "height", "I", true)
  | 3 => ("PageFile$Box", "depth", "I", true)
  | 4 => ("PageFile$Box", "first", "LPageFile$Item;", true)
  | 5 => ("PageFile$Box", "items", "I", true)
  | _ => ("PageFile$Box", "nested", "I", true)
def ty_Box : Nat → FieldType := fun k => match k with
  | 0 => .boolean
  | 1 => .int
  | 2 => .int
  | 3 => .int
  | 4 => .object "PageFile$Item"
  | 5 => .int
  | _ => .int
theorem nm_Box : ∀ a, a < 7 → ∀ b, b < 7 → a ≠ b → (T_Box a).2.1 ≠ (T_Box b).2.1 := by decide +kernel
theorem ok_Box : ∀ k, k < 7 → parseFieldDescriptor (T_Box k).2.2.1 = some (ty_Box k) := by decide +kernel
def R_Byt : String := "PageFile$Bytes"
def T_Byt : u_T := fun k => match k with
  | 0 => ("PageFile$Bytes", "row", "[B", false)
  | _ => ("PageFile$Bytes", "length", "I", false)
def ty_Byt : Nat → FieldType := fun k => match k with
  | 0 => .array (.byte)
  | _ => .int
theorem nm_Byt : ∀ a, a < 2 → ∀ b, b < 2 → a ≠ b → (T_Byt a).2.1 ≠ (T_Byt b).2.1 := by decide +kernel
theorem ok_Byt : ∀ k, k < 2 → parseFieldDescriptor (T_Byt k).2.2.1 = some (ty_Byt k) := by decide +kernel
def R_Fon : String := "PageFile$Fonts"
def T_Fon : u_T := fun k => match k with
  | 0 => ("PageFile$Fonts", "sizes", "[I", true)
  | 1 => ("PageFile$Fonts", "designs", "[I", true)
  | _ => ("PageFile$Fonts", "used", "I", false)
def ty_Fon : Nat → FieldType := fun k => match k with
  | 0 => .array (.int)
  | 1 => .array (.int)
  | _ => .int
theorem nm_Fon : ∀ a, a < 3 → ∀ b, b < 3 → a ≠ b → (T_Fon a).2.1 ≠ (T_Fon b).2.1 := by decide +kernel
theorem ok_Fon : ∀ k, k < 3 → parseFieldDescriptor (T_Fon k).2.2.1 = some (ty_Fon k) := by decide +kernel
def R_Fra : String := "PageFile$Frame"
def T_Fra : u_T := fun k => match k with
  | 0 => ("PageFile$Frame", "outer", "LPageFile$Frame;", true)
  | 1 => ("PageFile$Frame", "level", "I", true)
  | 2 => ("PageFile$Frame", "savedAcross", "LPageFile$Track;", true)
  | 3 => ("PageFile$Frame", "savedDown", "LPageFile$Track;", true)
  | 4 => ("PageFile$Frame", "inner", "LPageFile$Frame;", false)
  | 5 => ("PageFile$Frame", "vertical", "Z", false)
  | 6 => ("PageFile$Frame", "width", "I", false)
  | 7 => ("PageFile$Frame", "height", "I", false)
  | 8 => ("PageFile$Frame", "depth", "I", false)
  | 9 => ("PageFile$Frame", "left", "I", false)
  | 10 => ("PageFile$Frame", "base", "I", false)
  | 11 => ("PageFile$Frame", "at", "I", false)
  | _ => ("PageFile$Frame", "next", "LPageFile$Item;", false)
def ty_Fra : Nat → FieldType := fun k => match k with
  | 0 => .object "PageFile$Frame"
  | 1 => .int
  | 2 => .object "PageFile$Track"
  | 3 => .object "PageFile$Track"
  | 4 => .object "PageFile$Frame"
  | 5 => .boolean
  | 6 => .int
  | 7 => .int
  | 8 => .int
  | 9 => .int
  | 10 => .int
  | 11 => .int
  | _ => .object "PageFile$Item"
theorem nm_Fra : ∀ a, a < 13 → ∀ b, b < 13 → a ≠ b → (T_Fra a).2.1 ≠ (T_Fra b).2.1 := by decide +kernel
theorem ok_Fra : ∀ k, k < 13 → parseFieldDescriptor (T_Fra k).2.2.1 = some (ty_Fra k) := by decide +kernel
def R_Itm : String := "PageFile$Item"
def T_Itm : u_T := fun k => match k with
  | 0 => ("PageFile$Item", "kind", "I", true)
  | 1 => ("PageFile$Item", "width", "I", true)
  | 2 => ("PageFile$Item", "height", "I", true)
  | 3 => ("PageFile$Item", "depth", "I", true)
  | 4 => ("PageFile$Item", "font", "I", false)
  | 5 => ("PageFile$Item", "code", "I", false)
  | 6 => ("PageFile$Item", "running", "I", false)
  | 7 => ("PageFile$Item", "shift", "I", false)
  | 8 => ("PageFile$Item", "box", "LPageFile$Box;", false)
  | _ => ("PageFile$Item", "next", "LPageFile$Item;", false)
def ty_Itm : Nat → FieldType := fun k => match k with
  | 0 => .int
  | 1 => .int
  | 2 => .int
  | 3 => .int
  | 4 => .int
  | 5 => .int
  | 6 => .int
  | 7 => .int
  | 8 => .object "PageFile$Box"
  | _ => .object "PageFile$Item"
theorem nm_Itm : ∀ a, a < 10 → ∀ b, b < 10 → a ≠ b → (T_Itm a).2.1 ≠ (T_Itm b).2.1 := by decide +kernel
theorem ok_Itm : ∀ k, k < 10 → parseFieldDescriptor (T_Itm k).2.2.1 = some (ty_Itm k) := by decide +kernel
def R_OpL : String := "PageFile$OpenList"
def T_OpL : u_T := fun k => match k with
  | 0 => ("PageFile$OpenList", "vertical", "Z", true)
  | 1 => ("PageFile$OpenList", "outer", "LPageFile$OpenList;", true)
  | 2 => ("PageFile$OpenList", "level", "I", true)
  | 3 => ("PageFile$OpenList", "first", "LPageFile$Item;", false)
  | 4 => ("PageFile$OpenList", "last", "LPageFile$Item;", false)
  | 5 => ("PageFile$OpenList", "items", "I", false)
  | 6 => ("PageFile$OpenList", "nested", "I", false)
  | 7 => ("PageFile$OpenList", "width", "J", false)
  | 8 => ("PageFile$OpenList", "height", "J", false)
  | _ => ("PageFile$OpenList", "depth", "J", false)
def ty_OpL : Nat → FieldType := fun k => match k with
  | 0 => .boolean
  | 1 => .object "PageFile$OpenList"
  | 2 => .int
  | 3 => .object "PageFile$Item"
  | 4 => .object "PageFile$Item"
  | 5 => .int
  | 6 => .int
  | 7 => .long
  | 8 => .long
  | _ => .long
theorem nm_OpL : ∀ a, a < 10 → ∀ b, b < 10 → a ≠ b → (T_OpL a).2.1 ≠ (T_OpL b).2.1 := by decide +kernel
theorem ok_OpL : ∀ k, k < 10 → parseFieldDescriptor (T_OpL k).2.2.1 = some (ty_OpL k) := by decide +kernel
def R_PgW : String := "PageFile$PageWriter"
def T_PgW : u_T := fun k => match k with
  | 0 => ("PageFile$PageWriter", "out", "LPageFile$Bytes;", true)
  | 1 => ("PageFile$PageWriter", "fonts", "LPageFile$Fonts;", true)
  | 2 => ("PageFile$PageWriter", "across", "LPageFile$Track;", true)
  | 3 => ("PageFile$PageWriter", "down", "LPageFile$Track;", true)
  | 4 => ("PageFile$PageWriter", "outermost", "LPageFile$Frame;", true)
  | 5 => ("PageFile$PageWriter", "lastFont", "I", false)
  | 6 => ("PageFile$PageWriter", "deepest", "I", false)
  | _ => ("PageFile$PageWriter", "failed", "Z", false)
def ty_PgW : Nat → FieldType := fun k => match k with
  | 0 => .object "PageFile$Bytes"
  | 1 => .object "PageFile$Fonts"
  | 2 => .object "PageFile$Track"
  | 3 => .object "PageFile$Track"
  | 4 => .object "PageFile$Frame"
  | 5 => .int
  | 6 => .int
  | _ => .boolean
theorem nm_PgW : ∀ a, a < 8 → ∀ b, b < 8 → a ≠ b → (T_PgW a).2.1 ≠ (T_PgW b).2.1 := by decide +kernel
theorem ok_PgW : ∀ k, k < 8 → parseFieldDescriptor (T_PgW k).2.2.1 = some (ty_PgW k) := by decide +kernel
def R_Trk : String := "PageFile$Track"
def T_Trk : u_T := fun k => match k with
  | 0 => ("PageFile$Track", "command", "I", true)
  | 1 => ("PageFile$Track", "place", "I", false)
  | 2 => ("PageFile$Track", "first", "I", false)
  | 3 => ("PageFile$Track", "second", "I", false)
  | _ => ("PageFile$Track", "secondIsOlder", "Z", false)
def ty_Trk : Nat → FieldType := fun k => match k with
  | 0 => .int
  | 1 => .int
  | 2 => .int
  | 3 => .int
  | _ => .boolean
theorem nm_Trk : ∀ a, a < 5 → ∀ b, b < 5 → a ≠ b → (T_Trk a).2.1 ≠ (T_Trk b).2.1 := by decide +kernel
theorem ok_Trk : ∀ k, k < 5 → parseFieldDescriptor (T_Trk k).2.2.1 = some (ty_Trk k) := by decide +kernel
def R_Mod : String := "PageFileModel"
def T_Mod : u_T := fun k => match k with
  | 0 => ("PageFileModel", "thrown", "I", false)
  | 1 => ("PageFileModel", "kind", "[I", true)
  | 2 => ("PageFileModel", "wide", "[I", true)
  | 3 => ("PageFileModel", "high", "[I", true)
  | 4 => ("PageFileModel", "deep", "[I", true)
  | 5 => ("PageFileModel", "shift", "[I", true)
  | 6 => ("PageFileModel", "code", "[I", true)
  | 7 => ("PageFileModel", "span", "[I", true)
  | 8 => ("PageFileModel", "lists", "I", false)
  | 9 => ("PageFileModel", "begin", "[I", true)
  | 10 => ("PageFileModel", "vertical", "[Z", true)
  | 11 => ("PageFileModel", "end", "I", false)
  | 12 => ("PageFileModel", "size", "[I", true)
  | 13 => ("PageFileModel", "fontSize", "[I", true)
  | 14 => ("PageFileModel", "fontDesign", "[I", true)
  | 15 => ("PageFileModel", "used", "[Z", true)
  | 16 => ("PageFileModel", "usedBefore", "[Z", true)
  | 17 => ("PageFileModel", "file", "[B", true)
  | 18 => ("PageFileModel", "length", "I", false)
  | 19 => ("PageFileModel", "ended", "Z", false)
  | 20 => ("PageFileModel", "pages", "I", false)
  | 21 => ("PageFileModel", "lastPage", "I", false)
  | 22 => ("PageFileModel", "tallest", "J", false)
  | 23 => ("PageFileModel", "broadest", "I", false)
  | 24 => ("PageFileModel", "deepest", "I", false)
  | 25 => ("PageFileModel", "right", "[I", true)
  | 26 => ("PageFileModel", "down", "[I", true)
  | 27 => ("PageFileModel", "open", "I", false)
  | 28 => ("PageFileModel", "until", "[I", true)
  | 29 => ("PageFileModel", "at", "[J", true)
  | 30 => ("PageFileModel", "keep", "[I", true)
  | 31 => ("PageFileModel", "now", "[I", true)
  | 32 => ("PageFileModel", "fontNow", "I", false)
  | _ => ("PageFileModel", "good", "Z", false)
def ty_Mod : Nat → FieldType := fun k => match k with
  | 0 => .int
  | 1 => .array (.int)
  | 2 => .array (.int)
  | 3 => .array (.int)
  | 4 => .array (.int)
  | 5 => .array (.int)
  | 6 => .array (.int)
  | 7 => .array (.int)
  | 8 => .int
  | 9 => .array (.int)
  | 10 => .array (.boolean)
  | 11 => .int
  | 12 => .array (.int)
  | 13 => .array (.int)
  | 14 => .array (.int)
  | 15 => .array (.boolean)
  | 16 => .array (.boolean)
  | 17 => .array (.byte)
  | 18 => .int
  | 19 => .boolean
  | 20 => .int
  | 21 => .int
  | 22 => .long
  | 23 => .int
  | 24 => .int
  | 25 => .array (.int)
  | 26 => .array (.int)
  | 27 => .int
  | 28 => .array (.int)
  | 29 => .array (.long)
  | 30 => .array (.int)
  | 31 => .array (.int)
  | 32 => .int
  | _ => .boolean
theorem nm_Mod : ∀ a, a < 34 → ∀ b, b < 34 → a ≠ b → (T_Mod a).2.1 ≠ (T_Mod b).2.1 := by decide +kernel
theorem ok_Mod : ∀ k, k < 34 → parseFieldDescriptor (T_Mod k).2.2.1 = some (ty_Mod k) := by decide +kernel
def R_Law : String := "PageFileLaw"
/-- the classes whose objects the worlds hold -/
abbrev cls : List vw_C := [(R_PF, T_PF, 12), (R_Box, T_Box, 7), (R_Byt, T_Byt, 2), (R_Fon, T_Fon, 3), (R_Fra, T_Fra, 13), (R_Itm, T_Itm, 10), (R_OpL, T_OpL, 10), (R_PgW, T_PgW, 8), (R_Trk, T_Trk, 5), (R_Mod, T_Mod, 34)]
/-- the words of the tables that last (every method may use them), and the nest mates' links -/
def gw : List Cond := lw_tbl.filter goodWord
def nest_w : Cond → Bool
  | .fieldLinkNest .. => true
  | .methodLinkNest .. => true
  | .arrayOver (.object _) => true
  | _ => false
def nw : List Cond := lw_tbl.filter nest_w
theorem gw_in {w : Cond} (i : Nat) (h : tables_1[i]? = some w) (hg : goodWord w = true) : w ∈ gw := List.mem_filter.mpr ⟨List.mem_append_right _ (List.mem_of_getElem? h), hg⟩
theorem gw_sel {w : Cond} (i : Nat) (h : (k2_sels lw_privs)[i]? = some w) (hg : goodWord w = true) : w ∈ gw := List.mem_filter.mpr ⟨List.mem_append_left _ (List.mem_of_getElem? h), hg⟩
theorem nw_in {w : Cond} (i : Nat) (h : tables_1[i]? = some w) (hg : nest_w w = true) : w ∈ nw := List.mem_filter.mpr ⟨List.mem_append_right _ (List.mem_of_getElem? h), hg⟩
theorem gw_good {w : Cond} (h : w ∈ gw) : (w.onTables && w.keeps) = true ∨ ∃ ty, w = .arrayClass ty := good_of_word (List.mem_filter.mp h).2
theorem gw_tbl {w : Cond} (h : w ∈ gw) : w ∈ lw_tbl := (List.mem_filter.mp h).1
theorem i_PF : ∀ w ∈ u_ws R_PF T_PF 12, w ∈ gw := fun w h => List.mem_filter.mpr ⟨List.mem_append_right _ ((show ∀ w ∈ u_ws R_PF T_PF 12, w ∈ tables_1 by decide +kernel) w h), (show ∀ w ∈ u_ws R_PF T_PF 12, goodWord w = true by decide +kernel) w h⟩
theorem i_Box : ∀ w ∈ u_ws R_Box T_Box 7, w ∈ gw := fun w h => List.mem_filter.mpr ⟨List.mem_append_right _ ((show ∀ w ∈ u_ws R_Box T_Box 7, w ∈ tables_1 by decide +kernel) w h), (show ∀ w ∈ u_ws R_Box T_Box 7, goodWord w = true by decide +kernel) w h⟩
theorem i_Byt : ∀ w ∈ u_ws R_Byt T_Byt 2, w ∈ gw := fun w h => List.mem_filter.mpr ⟨List.mem_append_right _ ((show ∀ w ∈ u_ws R_Byt T_Byt 2, w ∈ tables_1 by decide +kernel) w h), (show ∀ w ∈ u_ws R_Byt T_Byt 2, goodWord w = true by decide +kernel) w h⟩
theorem i_Fon : ∀ w ∈ u_ws R_Fon T_Fon 3, w ∈ gw := fun w h => List.mem_filter.mpr ⟨List.mem_append_right _ ((show ∀ w ∈ u_ws R_Fon T_Fon 3, w ∈ tables_1 by decide +kernel) w h), (show ∀ w ∈ u_ws R_Fon T_Fon 3, goodWord w = true by decide +kernel) w h⟩
theorem i_Fra : ∀ w ∈ u_ws R_Fra T_Fra 13, w ∈ gw := fun w h => List.mem_filter.mpr ⟨List.mem_append_right _ ((show ∀ w ∈ u_ws R_Fra T_Fra 13, w ∈ tables_1 by decide +kernel) w h), (show ∀ w ∈ u_ws R_Fra T_Fra 13, goodWord w = true by decide +kernel) w h⟩
theorem i_Itm : ∀ w ∈ u_ws R_Itm T_Itm 10, w ∈ gw := fun w h => List.mem_filter.mpr ⟨List.mem_append_right _ ((show ∀ w ∈ u_ws R_Itm T_Itm 10, w ∈ tables_1 by decide +kernel) w h), (show ∀ w ∈ u_ws R_Itm T_Itm 10, goodWord w = true by decide +kernel) w h⟩
theorem i_OpL : ∀ w ∈ u_ws R_OpL T_OpL 10, w ∈ gw := fun w h => List.mem_filter.mpr ⟨List.mem_append_right _ ((show ∀ w ∈ u_ws R_OpL T_OpL 10, w ∈ tables_1 by decide +kernel) w h), (show ∀ w ∈ u_ws R_OpL T_OpL 10, goodWord w = true by decide +kernel) w h⟩
theorem i_PgW : ∀ w ∈ u_ws R_PgW T_PgW 8, w ∈ gw := fun w h => List.mem_filter.mpr ⟨List.mem_append_right _ ((show ∀ w ∈ u_ws R_PgW T_PgW 8, w ∈ tables_1 by decide +kernel) w h), (show ∀ w ∈ u_ws R_PgW T_PgW 8, goodWord w = true by decide +kernel) w h⟩
theorem i_Trk : ∀ w ∈ u_ws R_Trk T_Trk 5, w ∈ gw := fun w h => List.mem_filter.mpr ⟨List.mem_append_right _ ((show ∀ w ∈ u_ws R_Trk T_Trk 5, w ∈ tables_1 by decide +kernel) w h), (show ∀ w ∈ u_ws R_Trk T_Trk 5, goodWord w = true by decide +kernel) w h⟩
theorem i_Mod : ∀ w ∈ u_ws R_Mod T_Mod 34, w ∈ gw := fun w h => List.mem_filter.mpr ⟨List.mem_append_right _ ((show ∀ w ∈ u_ws R_Mod T_Mod 34, w ∈ tables_1 by decide +kernel) w h), (show ∀ w ∈ u_ws R_Mod T_Mod 34, goodWord w = true by decide +kernel) w h⟩
end
section
/-! A method as its walk needs it: name, code, locals, what it returns, the frames and the locals' words that its own calls need. V: from here the method comes to its end with Q of its answer and of the world; at most k cells of n slots come. -/
abbrev MT : Type := MethodName × ByteArray × Nat × Option FieldType × Nat × Nat
abbrev MP : Type := Nat → Option va_E
abbrev TY : Type := List (ClassId × FieldType)
def mt_ws (t : MT) : List Cond := .code t.1 t.2.1 t.2.2.1 t.2.2.2.1 :: gw
def mt_rm (t : MT) (k n : Nat) : Room := { frames := t.2.2.2.2.1, cells := k, slots := n, locals := t.2.2.2.2.2 }
def KK (D : va_G) (tys : TY) (U : State) : Prop := va_K D cls tys U ∧ ∀ w ∈ nw, va_Nw w U
theorem KK_warm {D : va_G} {tys : TY} {s U : State} (hW : s.WarmedH U.vm) (h : KK D tys s) : KK D tys U := by
  refine ⟨va_K.moved hW.alike h.1, fun w hw => ?_⟩
  have h2 := (List.mem_filter.mp hw).2
  have h3 := h.2 w hw
  cases w <;> first | exact va_Nw.warmF hW h3 | exact va_Nw.warmM hW h3 | exact (Bool.false_ne_true h2).elim | (rename_i ty; cases ty <;> first | exact va_AO.moved hW.alike h3 | exact (Bool.false_ne_true h2).elim)
theorem KK_call {D : va_G} {tys : TY} {U : State} {g : JFrame} {mk : MethodId} {a : Array Value} (h : KK D tys U) : KK D tys (U.calling g mk a) := by
  refine ⟨va_K.moved (u := U) (U := U.calling g mk a) (Vm.Alike.refl U.vm) h.1, fun w hw => ?_⟩
  have h2 := (List.mem_filter.mp hw).2
  have h3 := h.2 w hw
  cases w <;> first | exact (Bool.false_ne_true h2).elim | exact va_Nw.same rfl rfl h3 | (rename_i ty; cases ty <;> first | exact va_AO.moved (u := U) (U := U.calling g mk a) (Vm.Alike.refl U.vm) h3 | exact (Bool.false_ne_true h2).elim)
def PreM (D : va_G) (tys : TY) (A : Nat → Prop) (M : MP) (U : State) : Prop := (∀ q, U.heap.size ≤ q → A q) ∧ mw D cls A M U.heap ∧ KK D tys U
def QcM (D : va_G) (A : Nat → Prop) (Q : Option Value → MP → Prop) : Array Value → State → Outcome → State → Prop := fun _ st oc t => (∃ (r : Option Value) (M' : MP), oc = .returned r ∧ Q r M' ∧ mw D cls A M' t.heap) ∧ va_F A st t
/-- the contract: from every world M (with A all that may change) the method returns, Q of its answer and of the new world; k cells of n slots at most -/
def Ct (l : Launch) (D : va_G) (tys : TY) (t : MT) (k n : Nat) (av : List Value) (M : MP) (Q : Option Value → MP → Prop) : Prop := ∀ A : Nat → Prop, Met l t.1 (mt_ws t) (mt_rm t k n) (va_Pc av (PreM D tys A M)) (QcM D A Q) k n A
def Cx (D : va_G) (tys : TY) (t : MT) (A : Nat → Prop) (p : Program) (s : State) (m : MethodId) (args : Array Value) (meth : Method) (c : Code) : Prop :=
  CallFix p m c t.2.1 t.2.2.1 s args (mt_ws t) t.1.cls ∧ meth.sig.returnType = t.2.2.2.1 ∧ meth.locks = false ∧ meth.name = t.1.name ∧ KK D tys s ∧ ∀ q, s.heap.size ≤ q → A q
def V (l : Launch) (D : va_G) (tys : TY) (t : MT) (k n : Nat) (pc : Nat) (lv : List (Nat × Value)) (st : List Value) (M : MP) (Q : Option Value → MP → Prop) : Prop :=
  ∀ (A : Nat → Prop) (p : Program) (e : Env) (s : State) (m : MethodId) (args : Array Value) (below : List Frame) (meth : Method) (c : Code), Cx D tys t A p s m args meth c →
    ∀ (k0 n0 : Nat) (H : Heap) (locs : List Loc) (cells slots : Nat) (ls : Array Slot), mw D cls A M H → va_S A s.heap H locs → lv_has ls t.2.2.1 lv → cells + k ≤ k0 → slots + n ≤ n0 →
      W p l e (mt_rm t k0 n0) s m args below meth c H locs cells slots (MQ below (QcM D A Q) args s k0 n0 A) (F0 m pc ls st)
theorem Ct_of {l : Launch} {D : va_G} {tys : TY} {t : MT} {k n : Nat} {av : List Value} {M : MP} {Q : Option Value → MP → Prop} (hpl : plainName t.1.cls = true) (hlen : (lg_sl av).length ≤ t.2.2.1) (h : V l D tys t k n 0 (lv_args 0 av) [] M Q) : Ct l D tys t k n av M Q := by
  intro A
  refine Met.ofW (cc := t.2.1) (maxL := t.2.2.1) (ret := t.2.2.2.1) hpl rfl ?_
  intro p e s m args below meth c s₁ B hml hv
  obtain ⟨rfl, hA, hM, hK⟩ := hv
  rw [lg_entry_eq]
  exact h A p e s m _ below meth c ⟨⟨B.exec, B.bytes, hml, findClass_of_methodNamed B.named, atoms_spec (ws := mt_ws t) B.pre⟩, B.returns, B.notSynchronized, (name_of_methodNamed B.named B.method).1, hK, hA⟩ k n s.heap [] 0 0 _ hM va_S.rf (lv_entry av hlen) (by omega) (by omega)
theorem Ct_mono {l : Launch} {D : va_G} {tys : TY} {t : MT} {k n : Nat} {av : List Value} {M : MP} {Q Q' : Option Value → MP → Prop} (h : Ct l D tys t k n av M Q) (hq : ∀ r M', Q r M' → Q' r M') : Ct l D tys t k n av M Q' := by
  intro A p e ha hc hk s m args below hf happ hP hT
  obtain ⟨u, o, h1, h2, h3, h4⟩ := h A p e ha hc hk s m args below hf happ hP hT
  obtain ⟨⟨⟨r, M', e1, e2, e3⟩, e4⟩, e5⟩ := h4
  exact ⟨u, o, h1, h2, h3, ⟨⟨r, M', e1, hq r M' e2, e3⟩, e4⟩, e5⟩
theorem gw_ts {t : MT} {args : Array Value} {s : State} (h : ∀ w ∈ mt_ws t, w.before args s = true) {w : Cond} (hw : w ∈ gw) : w.before args s = true := h w (List.mem_cons_of_mem _ hw)
theorem gw_sub {t : MT} {ws : List Cond} (h : ∀ w ∈ ws, w ∈ gw) : ∀ w ∈ ws, w ∈ mt_ws t := fun w hw => List.mem_cons_of_mem _ (h w hw)
theorem lv_look {ls : Array Slot} {nL : Nat} {lv : List (Nat × Value)} (h : lv_has ls nL lv) {i : Nat} {v : Value} (hl : lv.lookup i = some v) : ls[i]? = some (.val v) := by
  refine h.2.2 (i, v) ?_
  clear h
  induction lv with
  | nil => cases hl
  | cons q lv ih =>
    obtain ⟨j, w⟩ := q
    by_cases hj : i = j
    · subst hj
      rw [List.lookup_cons_self] at hl
      cases hl
      exact List.mem_cons_self
    · have hb : (i == j) = false := beq_eq_false_iff_ne.mpr hj
      rw [List.lookup_cons, hb] at hl
      exact List.mem_cons_of_mem _ (ih hl)
/-- a reference or null -/
def isr (v : Value) : Prop := v = .null ∨ ∃ a, v = .ref a
theorem isr_rf (r : Option Nat) : isr (va_rf r) := va_rf_or r
theorem isr_ref (a : Nat) : isr (.ref a) := Or.inr ⟨a, rfl⟩
theorem isr_null : isr .null := Or.inl rfl
section VV
variable {l : Launch} {D : va_G} {tys : TY} {t : MT} {k n pc : Nat} {lv : List (Nat × Value)} {st : List Value} {M : MP} {Q : Option Value → MP → Prop}
theorem V_iadd {x y : Int32} (hd : decode t.2.1 pc = .ok (.iadd, 1)) (h : V l D tys t k n (pc + 1) lv (.int (x + y) :: st) M Q) : V l D tys t k n pc lv (.int y :: .int x :: st) M Q := fun A p e s m args below meth c C k0 n0 H locs cells slots ls hM hS hl hk hn => lv_iadd C.1.1 C.1.2.1 hd (h A p e s m args below meth c C k0 n0 H locs cells slots ls hM hS hl hk hn)
theorem V_isub {x y : Int32} (hd : decode t.2.1 pc = .ok (.isub, 1)) (h : V l D tys t k n (pc + 1) lv (.int (x - y) :: st) M Q) : V l D tys t k n pc lv (.int y :: .int x :: st) M Q := fun A p e s m args below meth c C k0 n0 H locs cells slots ls hM hS hl hk hn => lv_isub C.1.1 C.1.2.1 hd (h A p e s m args below meth c C k0 n0 H locs cells slots ls hM hS hl hk hn)
theorem V_imul {x y : Int32} (hd : decode t.2.1 pc = .ok (.imul, 1)) (h : V l D tys t k n (pc + 1) lv (.int (x * y) :: st) M Q) : V l D tys t k n pc lv (.int y :: .int x :: st) M Q := fun A p e s m args below meth c C k0 n0 H locs cells slots ls hM hS hl hk hn => lv_imul C.1.1 C.1.2.1 hd (h A p e s m args below meth c C k0 n0 H locs cells slots ls hM hS hl hk hn)
theorem V_iand {x y : Int32} (hd : decode t.2.1 pc = .ok (.iand, 1)) (h : V l D tys t k n (pc + 1) lv (.int (x &&& y) :: st) M Q) : V l D tys t k n pc lv (.int y :: .int x :: st) M Q := fun A p e s m args below meth c C k0 n0 H locs cells slots ls hM hS hl hk hn => lv_iand C.1.1 C.1.2.1 hd (h A p e s m args below meth c C k0 n0 H locs cells slots ls hM hS hl hk hn)
theorem V_ior {x y : Int32} (hd : decode t.2.1 pc = .ok (.ior, 1)) (h : V l D tys t k n (pc + 1) lv (.int (x ||| y) :: st) M Q) : V l D tys t k n pc lv (.int y :: .int x :: st) M Q := fun A p e s m args below meth c C k0 n0 H locs cells slots ls hM hS hl hk hn => lv_ior C.1.1 C.1.2.1 hd (h A p e s m args below meth c C k0 n0 H locs cells slots ls hM hS hl hk hn)
theorem V_ixor {x y : Int32} (hd : decode t.2.1 pc = .ok (.ixor, 1)) (h : V l D tys t k n (pc + 1) lv (.int (x ^^^ y) :: st) M Q) : V l D tys t k n pc lv (.int y :: .int x :: st) M Q := fun A p e s m args below meth c C k0 n0 H locs cells slots ls hM hS hl hk hn => lv_ixor C.1.1 C.1.2.1 hd (h A p e s m args below meth c C k0 n0 H locs cells slots ls hM hS hl hk hn)
theorem V_ishl {x y : Int32} (hd : decode t.2.1 pc = .ok (.ishl, 1)) (h : V l D tys t k n (pc + 1) lv (.int (x <<< (y &&& 31)) :: st) M Q) : V l D tys t k n pc lv (.int y :: .int x :: st) M Q := fun A p e s m args below meth c C k0 n0 H locs cells slots ls hM hS hl hk hn => lv_ishl C.1.1 C.1.2.1 hd (h A p e s m args below meth c C k0 n0 H locs cells slots ls hM hS hl hk hn)
theorem V_ishr {x y : Int32} (hd : decode t.2.1 pc = .ok (.ishr, 1)) (h : V l D tys t k n (pc + 1) lv (.int (x >>> (y &&& 31)) :: st) M Q) : V l D tys t k n pc lv (.int y :: .int x :: st) M Q := fun A p e s m args below meth c C k0 n0 H locs cells slots ls hM hS hl hk hn => lv_ishr C.1.1 C.1.2.1 hd (h A p e s m args below meth c C k0 n0 H locs cells slots ls hM hS hl hk hn)
theorem V_ladd {x y : Int64} (hd : decode t.2.1 pc = .ok (.ladd, 1)) (h : V l D tys t k n (pc + 1) lv (.long (x + y) :: st) M Q) : V l D tys t k n pc lv (.long y :: .long x :: st) M Q := fun A p e s m args below meth c C k0 n0 H locs cells slots ls hM hS hl hk hn => lv_ladd C.1.1 C.1.2.1 hd (h A p e s m args below meth c C k0 n0 H locs cells slots ls hM hS hl hk hn)
theorem V_lsub {x y : Int64} (hd : decode t.2.1 pc = .ok (.lsub, 1)) (h : V l D tys t k n (pc + 1) lv (.long (x - y) :: st) M Q) : V l D tys t k n pc lv (.long y :: .long x :: st) M Q := fun A p e s m args below meth c C k0 n0 H locs cells slots ls hM hS hl hk hn => lv_lsub C.1.1 C.1.2.1 hd (h A p e s m args below meth c C k0 n0 H locs cells slots ls hM hS hl hk hn)
theorem V_i2l {x : Int32} (hd : decode t.2.1 pc = .ok (.i2l, 1)) (h : V l D tys t k n (pc + 1) lv (.long x.toInt64 :: st) M Q) : V l D tys t k n pc lv (.int x :: st) M Q := fun A p e s m args below meth c C k0 n0 H locs cells slots ls hM hS hl hk hn => lv_i2l C.1.1 C.1.2.1 hd rfl (h A p e s m args below meth c C k0 n0 H locs cells slots ls hM hS hl hk hn)
theorem V_l2i {x : Int64} (hd : decode t.2.1 pc = .ok (.l2i, 1)) (h : V l D tys t k n (pc + 1) lv (.int x.toInt32 :: st) M Q) : V l D tys t k n pc lv (.long x :: st) M Q := fun A p e s m args below meth c C k0 n0 H locs cells slots ls hM hS hl hk hn => lv_l2i C.1.1 C.1.2.1 hd rfl (h A p e s m args below meth c C k0 n0 H locs cells slots ls hM hS hl hk hn)
theorem V_i2b {x : Int32} (hd : decode t.2.1 pc = .ok (.i2b, 1)) (h : V l D tys t k n (pc + 1) lv (.int x.toInt8.toInt32 :: st) M Q) : V l D tys t k n pc lv (.int x :: st) M Q := fun A p e s m args below meth c C k0 n0 H locs cells slots ls hM hS hl hk hn => lv_i2b C.1.1 C.1.2.1 hd rfl (h A p e s m args below meth c C k0 n0 H locs cells slots ls hM hS hl hk hn)
theorem V_lcmp {x y : Int64} (hd : decode t.2.1 pc = .ok (.lcmp, 1)) (h : V l D tys t k n (pc + 1) lv (.int (lg_cmp x y) :: st) M Q) : V l D tys t k n pc lv (.long y :: .long x :: st) M Q := fun A p e s m args below meth c C k0 n0 H locs cells slots ls hM hS hl hk hn => W.lcmp C.1.1 C.1.2.1 hd (h A p e s m args below meth c C k0 n0 H locs cells slots ls hM hS hl hk hn)
theorem V_iconst {j : Int} {v : Int32} (hd : decode t.2.1 pc = .ok (.iconst j, 1)) (hv : Int32.ofInt j = v) (h : V l D tys t k n (pc + 1) lv (.int v :: st) M Q) : V l D tys t k n pc lv st M Q := fun A p e s m args below meth c C k0 n0 H locs cells slots ls hM hS hl hk hn => lv_iconst C.1.1 C.1.2.1 hd hv (h A p e s m args below meth c C k0 n0 H locs cells slots ls hM hS hl hk hn)
theorem V_bipush {j : Int} {v : Int32} (hd : decode t.2.1 pc = .ok (.bipush j, 2)) (hv : (Int8.ofInt j).toInt32 = v) (h : V l D tys t k n (pc + 2) lv (.int v :: st) M Q) : V l D tys t k n pc lv st M Q := fun A p e s m args below meth c C k0 n0 H locs cells slots ls hM hS hl hk hn => lv_bipush C.1.1 C.1.2.1 hd hv (h A p e s m args below meth c C k0 n0 H locs cells slots ls hM hS hl hk hn)
theorem V_sipush {j : Int} {v : Int32} (hd : decode t.2.1 pc = .ok (.sipush j, 3)) (hv : (Int16.ofInt j).toInt32 = v) (h : V l D tys t k n (pc + 3) lv (.int v :: st) M Q) : V l D tys t k n pc lv st M Q := fun A p e s m args below meth c C k0 n0 H locs cells slots ls hM hS hl hk hn => lv_sipush C.1.1 C.1.2.1 hd hv (h A p e s m args below meth c C k0 n0 H locs cells slots ls hM hS hl hk hn)
theorem V_lconst {j : Fin 2} {v : Int64} (hd : decode t.2.1 pc = .ok (.lconst j, 1)) (hv : Int64.ofNat (j : Nat) = v) (h : V l D tys t k n (pc + 1) lv (.long v :: st) M Q) : V l D tys t k n pc lv st M Q := fun A p e s m args below meth c C k0 n0 H locs cells slots ls hM hS hl hk hn => lv_lconst C.1.1 C.1.2.1 hd hv (h A p e s m args below meth c C k0 n0 H locs cells slots ls hM hS hl hk hn)
theorem V_ldc {i : Nat} {v : Int32} (hd : decode t.2.1 pc = .ok (.ldc i, 2)) (hw : Cond.constant t.1.cls i v ∈ gw) (h : V l D tys t k n (pc + 2) lv (.int v :: st) M Q) : V l D tys t k n pc lv st M Q := fun A p e s m args below meth c C k0 n0 H locs cells slots ls hM hS hl hk hn => lv_ldc C.1.1 C.1.2.1 C.1.2.2.2.1 (gw_ts C.1.2.2.2.2 hw) hd (h A p e s m args below meth c C k0 n0 H locs cells slots ls hM hS hl hk hn)
theorem V_ldc2 {i : Nat} {v : Int64} (hd : decode t.2.1 pc = .ok (.ldc2_w i, 3)) (hw : Cond.constantLong t.1.cls i v ∈ gw) (h : V l D tys t k n (pc + 3) lv (.long v :: st) M Q) : V l D tys t k n pc lv st M Q := fun A p e s m args below meth c C k0 n0 H locs cells slots ls hM hS hl hk hn => lv_ldc2 C.1.1 C.1.2.1 C.1.2.2.2.1 (gw_ts C.1.2.2.2.2 hw) hd (h A p e s m args below meth c C k0 n0 H locs cells slots ls hM hS hl hk hn)
theorem V_dup {v : Value} (hd : decode t.2.1 pc = .ok (.dup, 1)) (hc : v.category = 1) (h : V l D tys t k n (pc + 1) lv (v :: v :: st) M Q) : V l D tys t k n pc lv (v :: st) M Q := fun A p e s m args below meth c C k0 n0 H locs cells slots ls hM hS hl hk hn => lv_dup C.1.1 C.1.2.1 hd hc (h A p e s m args below meth c C k0 n0 H locs cells slots ls hM hS hl hk hn)
theorem V_pop {v : Value} (hd : decode t.2.1 pc = .ok (.pop, 1)) (hc : v.category = 1) (h : V l D tys t k n (pc + 1) lv st M Q) : V l D tys t k n pc lv (v :: st) M Q := fun A p e s m args below meth c C k0 n0 H locs cells slots ls hM hS hl hk hn => lv_pop C.1.1 C.1.2.1 hd hc (h A p e s m args below meth c C k0 n0 H locs cells slots ls hM hS hl hk hn)
theorem V_dup_x1 {v w : Value} (hd : decode t.2.1 pc = .ok (.dup_x1, 1)) (hc : v.category = 1) (hc2 : w.category = 1) (h : V l D tys t k n (pc + 1) lv (v :: w :: v :: st) M Q) : V l D tys t k n pc lv (v :: w :: st) M Q := fun A p e s m args below meth c C k0 n0 H locs cells slots ls hM hS hl hk hn => lv_dup_x1 C.1.1 C.1.2.1 hd hc hc2 (h A p e s m args below meth c C k0 n0 H locs cells slots ls hM hS hl hk hn)
theorem V_dup2 {v w : Value} (hd : decode t.2.1 pc = .ok (.dup2, 1)) (hc : v.category = 1) (hc2 : w.category = 1) (h : V l D tys t k n (pc + 1) lv (v :: w :: v :: w :: st) M Q) : V l D tys t k n pc lv (v :: w :: st) M Q := fun A p e s m args below meth c C k0 n0 H locs cells slots ls hM hS hl hk hn => lv_dup2_11 C.1.1 C.1.2.1 hd hc hc2 (h A p e s m args below meth c C k0 n0 H locs cells slots ls hM hS hl hk hn)
theorem V_null  (hd : decode t.2.1 pc = .ok (.aconst_null, 1)) (h : V l D tys t k n (pc + 1) lv (.null :: st) M Q) : V l D tys t k n pc lv st M Q := fun A p e s m args below meth c C k0 n0 H locs cells slots ls hM hS hl hk hn => lv_null C.1.1 C.1.2.1 hd (h A p e s m args below meth c C k0 n0 H locs cells slots ls hM hS hl hk hn)
theorem V_iload_n {j : Fin 4} {x : Int32} (hd : decode t.2.1 pc = .ok (.iload_n j, 1)) (hv : lv.lookup (j : Nat) = some (.int x)) (h : V l D tys t k n (pc + 1) lv (.int x :: st) M Q) : V l D tys t k n pc lv st M Q := fun A p e s m args below meth c C k0 n0 H locs cells slots ls hM hS hl hk hn => lv_iload_n C.1.1 C.1.2.1 hd rfl (lv_look hl hv) (h A p e s m args below meth c C k0 n0 H locs cells slots ls hM hS hl hk hn)
theorem V_iload {i : Nat} {x : Int32} (hd : decode t.2.1 pc = .ok (.iload i, 2)) (hv : lv.lookup i = some (.int x)) (h : V l D tys t k n (pc + 2) lv (.int x :: st) M Q) : V l D tys t k n pc lv st M Q := fun A p e s m args below meth c C k0 n0 H locs cells slots ls hM hS hl hk hn => lv_iload C.1.1 C.1.2.1 hd (lv_look hl hv) (h A p e s m args below meth c C k0 n0 H locs cells slots ls hM hS hl hk hn)
theorem V_lload_n {j : Fin 4} {x : Int64} (hd : decode t.2.1 pc = .ok (.lload_n j, 1)) (hv : lv.lookup (j : Nat) = some (.long x)) (h : V l D tys t k n (pc + 1) lv (.long x :: st) M Q) : V l D tys t k n pc lv st M Q := fun A p e s m args below meth c C k0 n0 H locs cells slots ls hM hS hl hk hn => lv_lload_n C.1.1 C.1.2.1 hd rfl (lv_look hl hv) (h A p e s m args below meth c C k0 n0 H locs cells slots ls hM hS hl hk hn)
theorem V_lload {i : Nat} {x : Int64} (hd : decode t.2.1 pc = .ok (.lload i, 2)) (hv : lv.lookup i = some (.long x)) (h : V l D tys t k n (pc + 2) lv (.long x :: st) M Q) : V l D tys t k n pc lv st M Q := fun A p e s m args below meth c C k0 n0 H locs cells slots ls hM hS hl hk hn => lv_lload C.1.1 C.1.2.1 hd (lv_look hl hv) (h A p e s m args below meth c C k0 n0 H locs cells slots ls hM hS hl hk hn)
theorem V_aload_n {j : Fin 4} {v : Value} (hd : decode t.2.1 pc = .ok (.aload_n j, 1)) (hv : lv.lookup (j : Nat) = some v) (hr : isr v) (h : V l D tys t k n (pc + 1) lv (v :: st) M Q) : V l D tys t k n pc lv st M Q := fun A p e s m args below meth c C k0 n0 H locs cells slots ls hM hS hl hk hn => by
  rcases hr with rfl | ⟨x, rfl⟩
  · exact lv_aload_nN C.1.1 C.1.2.1 hd rfl (lv_look hl hv) (h A p e s m args below meth c C k0 n0 H locs cells slots ls hM hS hl hk hn)
  · exact lv_aload_n C.1.1 C.1.2.1 hd rfl (lv_look hl hv) (h A p e s m args below meth c C k0 n0 H locs cells slots ls hM hS hl hk hn)
theorem V_aload {i : Nat} {v : Value} (hd : decode t.2.1 pc = .ok (.aload i, 2)) (hv : lv.lookup i = some v) (hr : isr v) (h : V l D tys t k n (pc + 2) lv (v :: st) M Q) : V l D tys t k n pc lv st M Q := fun A p e s m args below meth c C k0 n0 H locs cells slots ls hM hS hl hk hn => by
  rcases hr with rfl | ⟨x, rfl⟩
  · exact lv_aloadN C.1.1 C.1.2.1 hd (lv_look hl hv) (h A p e s m args below meth c C k0 n0 H locs cells slots ls hM hS hl hk hn)
  · exact lv_aload C.1.1 C.1.2.1 hd (lv_look hl hv) (h A p e s m args below meth c C k0 n0 H locs cells slots ls hM hS hl hk hn)
theorem V_istore_n {j : Fin 4} {x : Int32} {lv' : List (Nat × Value)} (hd : decode t.2.1 pc = .ok (.istore_n j, 1)) (hb : (j : Nat) < t.2.2.1) (hf : ((j : Nat), Value.int x) :: lv.filter (fun q => !(q.1 == (j : Nat)) && !(q.1 + 1 == (j : Nat) && q.2.category == 2)) = lv') (h : V l D tys t k n (pc + 1) lv' st M Q) : V l D tys t k n pc lv (.int x :: st) M Q := fun A p e s m args below meth c C k0 n0 H locs cells slots ls hM hS hl hk hn => lv_istore_n C.1.1 C.1.2.1 hd rfl hl hb hf (fun ls' hl' => h A p e s m args below meth c C k0 n0 H locs cells slots ls' hM hS hl' hk hn)
theorem V_istore {i : Nat} {x : Int32} {lv' : List (Nat × Value)} (hd : decode t.2.1 pc = .ok (.istore i, 2)) (hb : i < t.2.2.1) (hf : (i, Value.int x) :: lv.filter (fun q => !(q.1 == i) && !(q.1 + 1 == i && q.2.category == 2)) = lv') (h : V l D tys t k n (pc + 2) lv' st M Q) : V l D tys t k n pc lv (.int x :: st) M Q := fun A p e s m args below meth c C k0 n0 H locs cells slots ls hM hS hl hk hn => lv_istore C.1.1 C.1.2.1 hd hl hb hf (fun ls' hl' => h A p e s m args below meth c C k0 n0 H locs cells slots ls' hM hS hl' hk hn)
theorem V_lstore_n {j : Fin 4} {x : Int64} {lv' : List (Nat × Value)} (hd : decode t.2.1 pc = .ok (.lstore_n j, 1)) (hb : (j : Nat) + 1 < t.2.2.1) (hf : ((j : Nat), Value.long x) :: lv.filter (fun q => !(q.1 == (j : Nat)) && (!(q.1 == (j : Nat) + 1) && !(q.1 + 1 == (j : Nat) && q.2.category == 2))) = lv') (h : V l D tys t k n (pc + 1) lv' st M Q) : V l D tys t k n pc lv (.long x :: st) M Q := fun A p e s m args below meth c C k0 n0 H locs cells slots ls hM hS hl hk hn => lv_lstore_n C.1.1 C.1.2.1 hd rfl hl hb hf (fun ls' hl' => h A p e s m args below meth c C k0 n0 H locs cells slots ls' hM hS hl' hk hn)
theorem V_lstore {i : Nat} {x : Int64} {lv' : List (Nat × Value)} (hd : decode t.2.1 pc = .ok (.lstore i, 2)) (hb : i + 1 < t.2.2.1) (hf : (i, Value.long x) :: lv.filter (fun q => !(q.1 == i) && (!(q.1 == i + 1) && !(q.1 + 1 == i && q.2.category == 2))) = lv') (h : V l D tys t k n (pc + 2) lv' st M Q) : V l D tys t k n pc lv (.long x :: st) M Q := fun A p e s m args below meth c C k0 n0 H locs cells slots ls hM hS hl hk hn => lv_lstore C.1.1 C.1.2.1 hd hl hb hf (fun ls' hl' => h A p e s m args below meth c C k0 n0 H locs cells slots ls' hM hS hl' hk hn)
theorem V_astore_n {j : Fin 4} {v : Value} {lv' : List (Nat × Value)} (hd : decode t.2.1 pc = .ok (.astore_n j, 1)) (hr : isr v) (hb : (j : Nat) < t.2.2.1) (hf : ((j : Nat), v) :: lv.filter (fun q => !(q.1 == (j : Nat)) && !(q.1 + 1 == (j : Nat) && q.2.category == 2)) = lv') (h : V l D tys t k n (pc + 1) lv' st M Q) : V l D tys t k n pc lv (v :: st) M Q := fun A p e s m args below meth c C k0 n0 H locs cells slots ls hM hS hl hk hn => by
  rcases hr with rfl | ⟨x, rfl⟩
  · exact lv_astore_nN C.1.1 C.1.2.1 hd rfl hl hb hf (fun ls' hl' => h A p e s m args below meth c C k0 n0 H locs cells slots ls' hM hS hl' hk hn)
  · exact lv_astore_n C.1.1 C.1.2.1 hd rfl hl hb hf (fun ls' hl' => h A p e s m args below meth c C k0 n0 H locs cells slots ls' hM hS hl' hk hn)
theorem V_astore {i : Nat} {v : Value} {lv' : List (Nat × Value)} (hd : decode t.2.1 pc = .ok (.astore i, 2)) (hr : isr v) (hb : i < t.2.2.1) (hf : (i, v) :: lv.filter (fun q => !(q.1 == i) && !(q.1 + 1 == i && q.2.category == 2)) = lv') (h : V l D tys t k n (pc + 2) lv' st M Q) : V l D tys t k n pc lv (v :: st) M Q := fun A p e s m args below meth c C k0 n0 H locs cells slots ls hM hS hl hk hn => by
  rcases hr with rfl | ⟨x, rfl⟩
  · exact lv_astoreN C.1.1 C.1.2.1 hd hl hb hf (fun ls' hl' => h A p e s m args below meth c C k0 n0 H locs cells slots ls' hM hS hl' hk hn)
  · exact lv_astore C.1.1 C.1.2.1 hd hl hb hf (fun ls' hl' => h A p e s m args below meth c C k0 n0 H locs cells slots ls' hM hS hl' hk hn)
theorem V_iinc {i : Nat} {j : Int} {x v : Int32} {lv' : List (Nat × Value)} (q : Nat) (hd : decode t.2.1 pc = .ok (.iinc i j, 3)) (hq : lv[q]? = some (i, .int x)) (hv : x + Int32.ofInt j = v) (hb : i < t.2.2.1) (hf : (i, Value.int v) :: lv.filter (fun q => !(q.1 == i) && !(q.1 + 1 == i && q.2.category == 2)) = lv') (h : V l D tys t k n (pc + 3) lv' st M Q) : V l D tys t k n pc lv st M Q := fun A p e s m args below meth c C k0 n0 H locs cells slots ls hM hS hl hk hn => lv_iinc C.1.1 C.1.2.1 hd hl hq hv hb hf (fun ls' hl' => h A p e s m args below meth c C k0 n0 H locs cells slots ls' hM hS hl' hk hn)
theorem V_goto {off : Int} (tgt : Nat) (hd : decode t.2.1 pc = .ok (.goto off, 3)) (ht : (pc : Int) + off = (tgt : Int)) (h : V l D tys t k n tgt lv st M Q) : V l D tys t k n pc lv st M Q := fun A p e s m args below meth c C k0 n0 H locs cells slots ls hM hS hl hk hn => lv_goto C.1.1 C.1.2.1 hd ht (h A p e s m args below meth c C k0 n0 H locs cells slots ls hM hS hl hk hn)
theorem V_if_eq {x : Int32} {off : Int} (tgt : Nat) (hd : decode t.2.1 pc = .ok (.ifCond .eq off, 3)) (ht : (pc : Int) + off = (tgt : Int)) (h1 : x = 0 → V l D tys t k n tgt lv st M Q) (h2 : ¬ (x = 0) → V l D tys t k n (pc + 3) lv st M Q) : V l D tys t k n pc lv (.int x :: st) M Q := fun A p e s m args below meth c C k0 n0 H locs cells slots ls hM hS hl hk hn => lv_if_eq C.1.1 C.1.2.1 hd ht (fun q => h1 q A p e s m args below meth c C k0 n0 H locs cells slots ls hM hS hl hk hn) (fun q => h2 q A p e s m args below meth c C k0 n0 H locs cells slots ls hM hS hl hk hn)
theorem V_icmp_eq {x y : Int32} {off : Int} (tgt : Nat) (hd : decode t.2.1 pc = .ok (.if_icmp .eq off, 3)) (ht : (pc : Int) + off = (tgt : Int)) (h1 : x = y → V l D tys t k n tgt lv st M Q) (h2 : ¬ (x = y) → V l D tys t k n (pc + 3) lv st M Q) : V l D tys t k n pc lv (.int y :: .int x :: st) M Q := fun A p e s m args below meth c C k0 n0 H locs cells slots ls hM hS hl hk hn => lv_icmp_eq C.1.1 C.1.2.1 hd ht (fun q => h1 q A p e s m args below meth c C k0 n0 H locs cells slots ls hM hS hl hk hn) (fun q => h2 q A p e s m args below meth c C k0 n0 H locs cells slots ls hM hS hl hk hn)
theorem V_if_ne {x : Int32} {off : Int} (tgt : Nat) (hd : decode t.2.1 pc = .ok (.ifCond .ne off, 3)) (ht : (pc : Int) + off = (tgt : Int)) (h1 : ¬ x = 0 → V l D tys t k n tgt lv st M Q) (h2 : ¬ (¬ x = 0) → V l D tys t k n (pc + 3) lv st M Q) : V l D tys t k n pc lv (.int x :: st) M Q := fun A p e s m args below meth c C k0 n0 H locs cells slots ls hM hS hl hk hn => lv_if_ne C.1.1 C.1.2.1 hd ht (fun q => h1 q A p e s m args below meth c C k0 n0 H locs cells slots ls hM hS hl hk hn) (fun q => h2 (fun z => z q) A p e s m args below meth c C k0 n0 H locs cells slots ls hM hS hl hk hn)
theorem V_icmp_ne {x y : Int32} {off : Int} (tgt : Nat) (hd : decode t.2.1 pc = .ok (.if_icmp .ne off, 3)) (ht : (pc : Int) + off = (tgt : Int)) (h1 : ¬ x = y → V l D tys t k n tgt lv st M Q) (h2 : ¬ (¬ x = y) → V l D tys t k n (pc + 3) lv st M Q) : V l D tys t k n pc lv (.int y :: .int x :: st) M Q := fun A p e s m args below meth c C k0 n0 H locs cells slots ls hM hS hl hk hn => lv_icmp_ne C.1.1 C.1.2.1 hd ht (fun q => h1 q A p e s m args below meth c C k0 n0 H locs cells slots ls hM hS hl hk hn) (fun q => h2 (fun z => z q) A p e s m args below meth c C k0 n0 H locs cells slots ls hM hS hl hk hn)
theorem V_if_lt {x : Int32} {off : Int} (tgt : Nat) (hd : decode t.2.1 pc = .ok (.ifCond .lt off, 3)) (ht : (pc : Int) + off = (tgt : Int)) (h1 : x < 0 → V l D tys t k n tgt lv st M Q) (h2 : ¬ (x < 0) → V l D tys t k n (pc + 3) lv st M Q) : V l D tys t k n pc lv (.int x :: st) M Q := fun A p e s m args below meth c C k0 n0 H locs cells slots ls hM hS hl hk hn => lv_if_lt C.1.1 C.1.2.1 hd ht (fun q => h1 q A p e s m args below meth c C k0 n0 H locs cells slots ls hM hS hl hk hn) (fun q => h2 q A p e s m args below meth c C k0 n0 H locs cells slots ls hM hS hl hk hn)
theorem V_icmp_lt {x y : Int32} {off : Int} (tgt : Nat) (hd : decode t.2.1 pc = .ok (.if_icmp .lt off, 3)) (ht : (pc : Int) + off = (tgt : Int)) (h1 : x < y → V l D tys t k n tgt lv st M Q) (h2 : ¬ (x < y) → V l D tys t k n (pc + 3) lv st M Q) : V l D tys t k n pc lv (.int y :: .int x :: st) M Q := fun A p e s m args below meth c C k0 n0 H locs cells slots ls hM hS hl hk hn => lv_icmp_lt C.1.1 C.1.2.1 hd ht (fun q => h1 q A p e s m args below meth c C k0 n0 H locs cells slots ls hM hS hl hk hn) (fun q => h2 q A p e s m args below meth c C k0 n0 H locs cells slots ls hM hS hl hk hn)
theorem V_if_ge {x : Int32} {off : Int} (tgt : Nat) (hd : decode t.2.1 pc = .ok (.ifCond .ge off, 3)) (ht : (pc : Int) + off = (tgt : Int)) (h1 : 0 ≤ x → V l D tys t k n tgt lv st M Q) (h2 : ¬ (0 ≤ x) → V l D tys t k n (pc + 3) lv st M Q) : V l D tys t k n pc lv (.int x :: st) M Q := fun A p e s m args below meth c C k0 n0 H locs cells slots ls hM hS hl hk hn => lv_if_ge C.1.1 C.1.2.1 hd ht (fun q => h1 q A p e s m args below meth c C k0 n0 H locs cells slots ls hM hS hl hk hn) (fun q => h2 q A p e s m args below meth c C k0 n0 H locs cells slots ls hM hS hl hk hn)
theorem V_icmp_ge {x y : Int32} {off : Int} (tgt : Nat) (hd : decode t.2.1 pc = .ok (.if_icmp .ge off, 3)) (ht : (pc : Int) + off = (tgt : Int)) (h1 : y ≤ x → V l D tys t k n tgt lv st M Q) (h2 : ¬ (y ≤ x) → V l D tys t k n (pc + 3) lv st M Q) : V l D tys t k n pc lv (.int y :: .int x :: st) M Q := fun A p e s m args below meth c C k0 n0 H locs cells slots ls hM hS hl hk hn => lv_icmp_ge C.1.1 C.1.2.1 hd ht (fun q => h1 q A p e s m args below meth c C k0 n0 H locs cells slots ls hM hS hl hk hn) (fun q => h2 q A p e s m args below meth c C k0 n0 H locs cells slots ls hM hS hl hk hn)
theorem V_if_gt {x : Int32} {off : Int} (tgt : Nat) (hd : decode t.2.1 pc = .ok (.ifCond .gt off, 3)) (ht : (pc : Int) + off = (tgt : Int)) (h1 : 0 < x → V l D tys t k n tgt lv st M Q) (h2 : ¬ (0 < x) → V l D tys t k n (pc + 3) lv st M Q) : V l D tys t k n pc lv (.int x :: st) M Q := fun A p e s m args below meth c C k0 n0 H locs cells slots ls hM hS hl hk hn => lv_if_gt C.1.1 C.1.2.1 hd ht (fun q => h1 q A p e s m args below meth c C k0 n0 H locs cells slots ls hM hS hl hk hn) (fun q => h2 q A p e s m args below meth c C k0 n0 H locs cells slots ls hM hS hl hk hn)
theorem V_icmp_gt {x y : Int32} {off : Int} (tgt : Nat) (hd : decode t.2.1 pc = .ok (.if_icmp .gt off, 3)) (ht : (pc : Int) + off = (tgt : Int)) (h1 : y < x → V l D tys t k n tgt lv st M Q) (h2 : ¬ (y < x) → V l D tys t k n (pc + 3) lv st M Q) : V l D tys t k n pc lv (.int y :: .int x :: st) M Q := fun A p e s m args below meth c C k0 n0 H locs cells slots ls hM hS hl hk hn => lv_icmp_gt C.1.1 C.1.2.1 hd ht (fun q => h1 q A p e s m args below meth c C k0 n0 H locs cells slots ls hM hS hl hk hn) (fun q => h2 q A p e s m args below meth c C k0 n0 H locs cells slots ls hM hS hl hk hn)
theorem V_if_le {x : Int32} {off : Int} (tgt : Nat) (hd : decode t.2.1 pc = .ok (.ifCond .le off, 3)) (ht : (pc : Int) + off = (tgt : Int)) (h1 : x ≤ 0 → V l D tys t k n tgt lv st M Q) (h2 : ¬ (x ≤ 0) → V l D tys t k n (pc + 3) lv st M Q) : V l D tys t k n pc lv (.int x :: st) M Q := fun A p e s m args below meth c C k0 n0 H locs cells slots ls hM hS hl hk hn => lv_if_le C.1.1 C.1.2.1 hd ht (fun q => h1 q A p e s m args below meth c C k0 n0 H locs cells slots ls hM hS hl hk hn) (fun q => h2 q A p e s m args below meth c C k0 n0 H locs cells slots ls hM hS hl hk hn)
theorem V_icmp_le {x y : Int32} {off : Int} (tgt : Nat) (hd : decode t.2.1 pc = .ok (.if_icmp .le off, 3)) (ht : (pc : Int) + off = (tgt : Int)) (h1 : x ≤ y → V l D tys t k n tgt lv st M Q) (h2 : ¬ (x ≤ y) → V l D tys t k n (pc + 3) lv st M Q) : V l D tys t k n pc lv (.int y :: .int x :: st) M Q := fun A p e s m args below meth c C k0 n0 H locs cells slots ls hM hS hl hk hn => lv_icmp_le C.1.1 C.1.2.1 hd ht (fun q => h1 q A p e s m args below meth c C k0 n0 H locs cells slots ls hM hS hl hk hn) (fun q => h2 q A p e s m args below meth c C k0 n0 H locs cells slots ls hM hS hl hk hn)
theorem V_ifnull {v : Value} {off : Int} (tgt : Nat) (hr : isr v) (hd : decode t.2.1 pc = .ok (.ifnull off, 3)) (ht : (pc : Int) + off = (tgt : Int)) (h1 : v = .null → V l D tys t k n tgt lv st M Q) (h2 : ∀ a, v = .ref a → V l D tys t k n (pc + 3) lv st M Q) : V l D tys t k n pc lv (v :: st) M Q := fun A p e s m args below meth c C k0 n0 H locs cells slots ls hM hS hl hk hn => by
  rcases hr with rfl | ⟨x, rfl⟩
  · exact lv_ifnullN C.1.1 C.1.2.1 hd ht (h1 rfl A p e s m args below meth c C k0 n0 H locs cells slots ls hM hS hl hk hn)
  · exact lv_ifnull C.1.1 C.1.2.1 hd (h2 x rfl A p e s m args below meth c C k0 n0 H locs cells slots ls hM hS hl hk hn)
theorem V_ifnonnull {v : Value} {off : Int} (tgt : Nat) (hr : isr v) (hd : decode t.2.1 pc = .ok (.ifnonnull off, 3)) (ht : (pc : Int) + off = (tgt : Int)) (h1 : ∀ a, v = .ref a → V l D tys t k n tgt lv st M Q) (h2 : v = .null → V l D tys t k n (pc + 3) lv st M Q) : V l D tys t k n pc lv (v :: st) M Q := fun A p e s m args below meth c C k0 n0 H locs cells slots ls hM hS hl hk hn => by
  rcases hr with rfl | ⟨x, rfl⟩
  · exact lv_ifnonnullN C.1.1 C.1.2.1 hd (h2 rfl A p e s m args below meth c C k0 n0 H locs cells slots ls hM hS hl hk hn)
  · exact lv_ifnonnull C.1.1 C.1.2.1 hd ht (h1 x rfl A p e s m args below meth c C k0 n0 H locs cells slots ls hM hS hl hk hn)
end VV
end
section
/-- the array classes of the worlds: int, byte, boolean, long, Box -/
def tyl (ac : Nat → ClassId) : TY := [(ac 0, .int), (ac 1, .byte), (ac 2, .boolean), (ac 3, .long), (ac 4, .object R_Box)]
/-- a field's site: pool entry i of class own is field kf of class number ci, of type FT, declared in dc; fin: it is final -/
def FL (own : String) (i ci kf : Nat) (FT : FieldType) (fin : Bool) (dc : String) : Prop := ∃ (C : String) (T : u_T) (N : Nat) (ty : Nat → FieldType), cls[ci]? = some (C, T, N) ∧ (∀ w ∈ u_ws C T N, w ∈ gw) ∧ (∀ k, k < N → parseFieldDescriptor (T k).2.2.1 = some (ty k)) ∧ (∀ a, a < N → ∀ b, b < N → a ≠ b → (T a).2.1 ≠ (T b).2.1) ∧ kf < N ∧ Cond.fieldLink own i (T kf).1 (T kf).2.1 (T kf).2.2.1 ∈ gw ∧ ty kf = FT ∧ (T kf).2.2.2 = fin ∧ (T kf).1 = dc
def FLN (own : String) (i ci kf : Nat) (FT : FieldType) (fin : Bool) (host : String) : Prop := ∃ (C : String) (T : u_T) (N : Nat) (ty : Nat → FieldType), cls[ci]? = some (C, T, N) ∧ (∀ w ∈ u_ws C T N, w ∈ gw) ∧ (∀ k, k < N → parseFieldDescriptor (T k).2.2.1 = some (ty k)) ∧ (∀ a, a < N → ∀ b, b < N → a ≠ b → (T a).2.1 ≠ (T b).2.1) ∧ kf < N ∧ Cond.fieldLinkNest own i (T kf).1 (T kf).2.1 (T kf).2.2.1 host ∈ nw ∧ ty kf = FT ∧ (T kf).2.2.2 = fin
/-- a class that a site makes -/
def NW (own : String) (i ci : Nat) (fs : List Value) (N : Nat) : Prop := ∃ (C : String) (T : u_T) (ty : Nat → FieldType), cls[ci]? = some (C, T, N) ∧ (∀ w ∈ u_ws C T N, w ∈ gw) ∧ (∀ k, k < N → parseFieldDescriptor (T k).2.2.1 = some (ty k)) ∧ Cond.classLink own i C ∈ gw ∧ Cond.instantiable C N ∈ gw ∧ Cond.initialized C ∈ gw ∧ ∀ j, j < N → defaultValue (ty j) = vp_V fs j
def okd (y : MethodName) (na : Nat) : Prop := y.cls ≠ "java/lang/invoke/MethodHandle" ∧ y.cls ≠ "java/lang/invoke/VarHandle" ∧ (parseMethodDescriptor y.desc).map (fun d => d.parameters.length) = some na
def okc (t : MT) (na : Nat) : Prop := Cond.code t.1 t.2.1 t.2.2.1 t.2.2.2.1 ∈ gw ∧ Cond.initialized t.1.cls ∈ gw ∧ okd t.1 na
/-- call sites: a method of the object, by a link of the tables or a nest mate's; a static one; a constructor -/
def OKV (own : String) (i : Nat) (t : MT) (na : Nat) : Prop := okc t na ∧ Cond.methodLink own i t.1 ∈ gw ∧ Cond.instanceMethod t.1 ∈ gw ∧ Cond.selects t.1.cls t.1 t.1 ∈ gw
def OKVN (own : String) (i : Nat) (t : MT) (na : Nat) : Prop := okc t na ∧ (∃ host, Cond.methodLinkNest own i t.1 host ∈ nw) ∧ Cond.instanceMethod t.1 ∈ gw ∧ Cond.selects t.1.cls t.1 t.1 ∈ gw
def OKS (own : String) (i : Nat) (t : MT) (na : Nat) : Prop := okc t na ∧ Cond.methodLink own i t.1 ∈ gw ∧ Cond.static t.1 ∈ gw
def OKSN (own : String) (i : Nat) (t : MT) (na : Nat) : Prop := okc t na ∧ (∃ host, Cond.methodLinkNest own i t.1 host ∈ nw) ∧ Cond.static t.1 ∈ gw
def OKI (own : String) (i : Nat) (t : MT) (na : Nat) : Prop := okc t na ∧ Cond.methodLink own i t.1 ∈ gw ∧ Cond.instanceMethod t.1 ∈ gw ∧ t.1.name = "<init>" ∧ t.2.2.2.1 = none
def OKIN (own : String) (i : Nat) (t : MT) (na : Nat) : Prop := okc t na ∧ (∃ host, Cond.methodLinkNest own i t.1 host ∈ nw) ∧ Cond.instanceMethod t.1 ∈ gw ∧ t.1.name = "<init>" ∧ t.2.2.2.1 = none
/-- the callee's frames and locals fit -/
def rmf (t t' : MT) : Prop := t'.2.2.2.2.1 + 1 ≤ t.2.2.2.2.1 ∧ 8 + (t'.2.2.1 + 11) + t'.2.2.2.2.2 ≤ t.2.2.2.2.2
theorem gi_ws {t t' : MT} (h : Cond.code t'.1 t'.2.1 t'.2.2.1 t'.2.2.2.1 ∈ gw) : GoodIn (mt_ws t) (mt_ws t') := fun w hw => by
  rcases List.mem_cons.mp hw with rfl | hw
  · exact ⟨List.mem_cons_of_mem _ h, gw_good h⟩
  · exact ⟨List.mem_cons_of_mem _ hw, gw_good hw⟩
theorem blind_M {D : va_G} {tys : TY} {A : Nat → Prop} {M : MP} {av : List Value} : FrameBlind (va_Pc av (PreM D tys A M)) := fun a U g mk q => by
  obtain ⟨q0, q1, q2, q3⟩ := q
  exact ⟨q0, q1, q2, KK_call q3⟩
theorem pre_M {D : va_G} {tys : TY} {A : Nat → Prop} {M : MP} {av : List Value} {s : State} {H H0 : Heap} {locs : List Loc} (hK : KK D tys s) (hA : ∀ q, H0.size ≤ q → A q) (hS : va_S A H0 H locs) (hM : mw D cls A M H) : ∀ U : State, U.heap = H → s.WarmedH U.vm → va_Pc av (PreM D tys A M) av.toArray U := fun U hU hW =>
  ⟨rfl, fun q hq => hA q (Nat.le_trans hS.1 (by rw [← hU]; exact hq)), by rw [hU]; exact hM, KK_warm hW hK⟩
section VH
variable {l : Launch} {D : va_G} {tys : TY} {ac : Nat → ClassId} {t t' : MT} {k n pc : Nat} {lv : List (Nat × Value)} {st rest : List Value} {M : MP} {Q : Option Value → MP → Prop} {x y : Nat}
/-- behind a call -/
theorem V_back {Q' : Option Value → MP → Prop} {p : Program} {e : Env} {s : State} {m : MethodId} {args a : Array Value} {below : List Frame} {meth : Method} {c : Code} {k0 n0 : Nat} {H H0 : Heap} {locs : List Loc} {cells slots k2 n2 : Nat} {ls : Array Slot} {A : Nat → Prop} {Z : State → Prop}
    (hr : va_Run p l e (mt_rm t k0 n0) s m args below meth c H locs cells slots k2 n2 (F0 m pc ls st) rest (QcM D A Q' a) A) (hS : va_S A H0 H locs)
    (h : ∀ (r : Option Value) (M' : MP) (H1 : Heap) (locs1 : List Loc), Q' r M' → mw D cls A M' H1 → va_S A H0 H1 locs1 → W p l e (mt_rm t k0 n0) s m args below meth c H1 locs1 (cells + k2) (slots + n2) Z (F0 m (pc + 3) ls (r.toList ++ rest))) : W p l e (mt_rm t k0 n0) s m args below meth c H locs cells slots Z (F0 m pc ls st) := by
  intro T hT X
  obtain ⟨v, st₀, u, T', L, h0, X', hL, e1, e2, ⟨⟨r, M', hv, hq, hm⟩, hz, hkk⟩, go⟩ := hr T hT X
  cases hv
  rw [h0] at hz hkk
  obtain ⟨t2, a1, b1⟩ := h v M' T'.heap (locs ++ L) hq (by rw [e1]; exact hm) ⟨Nat.le_trans hS.1 (by rw [e1]; exact hz), fun q h1 h2 => by rw [e1, hkk q (Nat.lt_of_lt_of_le h1 hS.1) h2]; exact hS.2.1 q h1 h2, fun q hq => by
      rcases List.mem_append.mp hq with h | h
      · exact hS.2.2 q h
      · exact hL q h⟩ T' rfl X'
  exact ⟨t2, go t2 a1, b1⟩
theorem V_ireturn {v : Int32} (hd : decode t.2.1 pc = .ok (.ireturn, 1)) (hr : t.2.2.2.1 = some .int) (hq : Q (some (.int v)) M) : V l D tys t k n pc lv [.int v] M Q := fun A p e s m args below meth c C k0 n0 H locs cells slots ls hM hS hl hk hn => by
  refine W.widen (k := k0) (n := n0) (by omega) (by omega) ?_
  exact W.iret C.1.1 C.1.2.1 (C.2.1.trans hr) (fun u hu _ => ⟨⟨_, M, rfl, hq, by rw [hu]; exact hM⟩, hS.F hu⟩) hS.2.2 hd C.2.2.1
theorem V_zreturn {v : Int32} {ty : FieldType} (hd : decode t.2.1 pc = .ok (.ireturn, 1)) (hr : t.2.2.2.1 = some ty) (hn9 : narrow ty (.int v) = .int v) (hq : Q (some (.int v)) M) : V l D tys t k n pc lv [.int v] M Q := fun A p e s m args below meth c C k0 n0 H locs cells slots ls hM hS hl hk hn => by
  refine W.widen (k := k0) (n := n0) (by omega) (by omega) ?_
  exact W.zret C.1.1 C.1.2.1 (C.2.1.trans hr) hn9 (fun u hu _ => ⟨⟨_, M, rfl, hq, by rw [hu]; exact hM⟩, hS.F hu⟩) hS.2.2 hd C.2.2.1
theorem V_return  (hd : decode t.2.1 pc = .ok (.return_, 1)) (hr : t.2.2.2.1 = none) (hq : Q none M) : V l D tys t k n pc lv [] M Q := fun A p e s m args below meth c C k0 n0 H locs cells slots ls hM hS hl hk hn => by
  refine W.widen (k := k0) (n := n0) (by omega) (by omega) ?_
  exact W.vret C.1.1 C.1.2.1 (C.2.1.trans hr) (fun u hu _ => ⟨⟨_, M, rfl, hq, by rw [hu]; exact hM⟩, hS.F hu⟩) hS.2.2 hd C.2.2.1
theorem V_lreturn {v : Int64} (hd : decode t.2.1 pc = .ok (.lreturn, 1)) (hr : t.2.2.2.1 = some .long) (hq : Q (some (.long v)) M) : V l D tys t k n pc lv [.long v] M Q := fun A p e s m args below meth c C k0 n0 H locs cells slots ls hM hS hl hk hn => by
  refine W.widen (k := k0) (n := n0) (by omega) (by omega) ?_
  exact W.lret C.1.1 C.1.2.1 (C.2.1.trans hr) (fun u hu _ => ⟨⟨_, M, rfl, hq, by rw [hu]; exact hM⟩, hS.F hu⟩) hS.2.2 hd C.2.2.1
theorem V_areturn {v : Value} {rt : FieldType} (hd : decode t.2.1 pc = .ok (.areturn, 1)) (hr : t.2.2.2.1 = some rt) (hrt : (∃ n, rt = .object n) ∨ ∃ t, rt = .array t) (hv : isr v) (hq : Q (some (v)) M) : V l D tys t k n pc lv [v] M Q := fun A p e s m args below meth c C k0 n0 H locs cells slots ls hM hS hl hk hn => by
  refine W.widen (k := k0) (n := n0) (by omega) (by omega) ?_
  exact W.aret C.1.1 C.1.2.1 (C.2.1.trans hr) hrt hv (fun u hu _ => ⟨⟨_, M, rfl, hq, by rw [hu]; exact hM⟩, hS.F hu⟩) hS.2.2 hd C.2.2.1
theorem V_getf {i ci kf a : Nat} {FT : FieldType} {fin : Bool} {dc : String} {fs : List Value} {v : Value} (hd : decode t.2.1 pc = .ok (.getfield i, 3)) (hf : FL t.1.cls i ci kf FT fin dc) (ha : M a = some (.inr (ci, fs))) (hv : fs[kf]? = some v) (h : V l D tys t k n (pc + 3) lv (v :: st) M Q) : V l D tys t k n pc lv (.ref a :: st) M Q := fun A p e s m args below meth c C k0 n0 H locs cells slots ls hM hS hl hk hn => by
  obtain ⟨Cn, T, N, ty, f1, f2, f3, f4, f5, f6, f7, f8, f9⟩ := hf
  exact mw_get C.1 C.2.2.2.2.1.1 hM (gw_sub f2) ha f1 kf f5 (gw_ts C.1.2.2.2.2 f6) (fun _ z => z) hv hd (h A p e s m args below meth c C k0 n0 H locs cells slots ls hM hS hl hk hn)
theorem V_getfN {i ci kf a : Nat} {FT : FieldType} {fin : Bool} {host : String} {fs : List Value} {v : Value} (hd : decode t.2.1 pc = .ok (.getfield i, 3)) (hf : FLN t.1.cls i ci kf FT fin host) (ha : M a = some (.inr (ci, fs))) (hv : fs[kf]? = some v) (h : V l D tys t k n (pc + 3) lv (v :: st) M Q) : V l D tys t k n pc lv (.ref a :: st) M Q := fun A p e s m args below meth c C k0 n0 H locs cells slots ls hM hS hl hk hn => by
  obtain ⟨Cn, T, N, ty, f1, f2, f3, f4, f5, f6, f7, f8⟩ := hf
  exact mw_getN C.1 C.2.2.2.2.1.1 hM (gw_sub f2) ha f1 kf f5 (va_Nw.use rfl (C.2.2.2.2.1.2 _ f6)) (fun _ z => z) hv hd (h A p e s m args below meth c C k0 n0 H locs cells slots ls hM hS hl hk hn)
theorem V_putf {i ci kf a : Nat} {FT : FieldType} {dc : String} {fs : List Value} {v : Value} (hd : decode t.2.1 pc = .ok (.putfield i, 3)) (hf : FL t.1.cls i ci kf FT false dc) (ha : M a = some (.inr (ci, fs))) (hn9 : narrow FT v = v) (hfit : fits FT v = true) (hlen : kf < fs.length) (h : V l D tys t k n (pc + 3) lv st (mu M a (.inr (ci, fs.set kf v))) Q) : V l D tys t k n pc lv (v :: .ref a :: st) M Q := fun A p e s m args below meth c C k0 n0 H locs cells slots ls hM hS hl hk hn => by
  obtain ⟨Cn, T, N, ty, f1, f2, f3, f4, f5, f6, f7, f8, f9⟩ := hf
  subst f7
  exact mw_put C.1 C.2.2.2.2.1.1 hM hS (gw_sub f2) ty f3 f4 ha f1 kf f5 (gw_ts C.1.2.2.2.2 f6) (fun _ z => z) f8 (f3 kf f5) hn9 hfit hlen hd (fun H locs hM hS => h A p e s m args below meth c C k0 n0 H locs cells slots ls hM hS hl hk hn)
theorem V_putfN {i ci kf a : Nat} {FT : FieldType} {host : String} {fs : List Value} {v : Value} (hd : decode t.2.1 pc = .ok (.putfield i, 3)) (hf : FLN t.1.cls i ci kf FT false host) (ha : M a = some (.inr (ci, fs))) (hn9 : narrow FT v = v) (hfit : fits FT v = true) (hlen : kf < fs.length) (h : V l D tys t k n (pc + 3) lv st (mu M a (.inr (ci, fs.set kf v))) Q) : V l D tys t k n pc lv (v :: .ref a :: st) M Q := fun A p e s m args below meth c C k0 n0 H locs cells slots ls hM hS hl hk hn => by
  obtain ⟨Cn, T, N, ty, f1, f2, f3, f4, f5, f6, f7, f8⟩ := hf
  subst f7
  exact mw_putN C.1 C.2.2.2.2.1.1 hM hS (gw_sub f2) ty f3 f4 ha f1 kf f5 (va_Nw.use rfl (C.2.2.2.2.1.2 _ f6)) (fun _ z => z) f8 (f3 kf f5) hn9 hfit hlen hd (fun H locs hM hS => h A p e s m args below meth c C k0 n0 H locs cells slots ls hM hS hl hk hn)
theorem V_putF {i ci kf a : Nat} {FT : FieldType} {fs : List Value} {v : Value} (hd : decode t.2.1 pc = .ok (.putfield i, 3)) (hf : FL t.1.cls i ci kf FT true t.1.cls) (hin : t.1.name = "<init>") (ha : M a = some (.inr (ci, fs))) (hn9 : narrow FT v = v) (hfit : fits FT v = true) (hlen : kf < fs.length) (h : V l D tys t k n (pc + 3) lv st (mu M a (.inr (ci, fs.set kf v))) Q) : V l D tys t k n pc lv (v :: .ref a :: st) M Q := fun A p e s m args below meth c C k0 n0 H locs cells slots ls hM hS hl hk hn => by
  obtain ⟨Cn, T, N, ty, f1, f2, f3, f4, f5, f6, f7, f8, f9⟩ := hf
  subst f7
  exact mw_putF C.1 C.2.2.2.2.1.1 hM hS (gw_sub f2) ty f3 f4 ha f1 kf f5 (gw_ts C.1.2.2.2.2 f6) (fun _ z => z) f8 (C.2.2.2.1.trans hin) f9 (f3 kf f5) hn9 hfit hlen hd (fun H locs hM hS => h A p e s m args below meth c C k0 n0 H locs cells slots ls hM hS hl hk hn)
theorem V_new {i ci N k' n' : Nat} {fs : List Value} (hd : decode t.2.1 pc = .ok (.new i, 3)) (hf : NW t.1.cls i ci fs N) (hk' : k = k' + 1) (hn' : n = n' + N) (h : ∀ q, M q = none → V l D tys t k' n' (pc + 3) lv (.ref q :: st) (mu M q (.inr (ci, fs))) Q) : V l D tys t k n pc lv st M Q := fun A p e s m args below meth c C k0 n0 H locs cells slots ls hM hS hl hk hn => by
  obtain ⟨Cn, T, ty, f1, f2, f3, f4, f5, f6, f7⟩ := hf
  subst hk'; subst hn'
  exact mw_new C.1 C.2.2.2.2.1.1 hM hS C.2.2.2.2.2 (gw_sub f2) ty f3 (gw_ts C.1.2.2.2.2 f4) (gw_ts C.1.2.2.2.2 f5) (gw_ts C.1.2.2.2.2 f6) f1 f7 (show cells + 1 ≤ k0 by omega) (show slots + N ≤ n0 by omega) hd (fun q H1 hq hM1 hS1 => h q hq A p e s m args below meth c C k0 n0 H1 locs (cells + 1) (slots + N) ls hM1 hS1 hl (by omega) (by omega))
theorem V_objInit {i a : Nat} (hd : decode t.2.1 pc = .ok (.invokespecial i, 3)) (h1 : Cond.methodLink t.1.cls i objectInit ∈ gw) (h2 : Cond.instanceMethod objectInit ∈ gw) (h3 : Cond.code objectInit ⟨#[0xb1]⟩ 1 none ∈ gw) (hfr : 1 ≤ t.2.2.2.2.1) (hlo : (st.map fun v => v.category).sum + 12 ≤ t.2.2.2.2.2) (h : V l D tys t k n (pc + 3) lv st M Q) : V l D tys t k n pc lv (.ref a :: st) M Q := fun A p e s m args below meth c C k0 n0 H locs cells slots ls hM hS hl hk hn =>
  W.objInit C.1.1 C.1.2.1 C.1.2.2.2.1 (gw_ts C.1.2.2.2.2 h1) (gw_ts C.1.2.2.2.2 h2) (gw_ts C.1.2.2.2.2 h3) rfl (hl.1.trans C.1.2.2.1.symm) rfl hd hfr (by show 2 * 0 + _ + 12 ≤ t.2.2.2.2.2; omega) (h A p e s m args below meth c C k0 n0 H locs cells slots ls hM hS hl hk hn)
theorem V_callV {i na : Nat} {As : List Value} {k' n' k2 n2 : Nat} {Q' : Option Value → MP → Prop} {b ci N : Nat} {T : u_T} {fs : List Value} (ha : M b = some (.inr (ci, fs))) (hcl : cls[ci]? = some (t'.1.cls, T, N)) (hd : decode t.2.1 pc = .ok (.invokevirtual i, 3)) (ok : OKV t.1.cls i t' na) (hR : rmf t t') (hna : As.length = na) (hst : st = As.reverse ++ .ref b :: rest) (hW9 : (rest.map fun v => v.category).sum ≤ 8) (hk' : k = k' + k2) (hn' : n = n' + n2) (ct : Ct l D tys t' k2 n2 (.ref b :: As) M Q') (h : ∀ r M', Q' r M' → V l D tys t k' n' (pc + 3) lv (r.toList ++ rest) M' Q) : V l D tys t k n pc lv st M Q := fun A p e s m args below meth c C k0 n0 H locs cells slots ls hM hS hl hk hn => by
  subst hk'; subst hn'
  obtain ⟨⟨o1, o2, o3⟩, o4, o5, o6⟩ := ok
  refine V_back (va_runV (As := As) (rest := rest) C.1 (ct A) ⟨(callB_of na C.1.2.2.2.2 (gi_ws o1) rfl rfl rfl (gw_ts C.1.2.2.2.2 o2) (gw_ts C.1.2.2.2.2 o4) o3 hR), gw_ts C.1.2.2.2.2 o5, gw_ts C.1.2.2.2.2 o6⟩ ⟨blind_M, va_recv C.2.2.2.2.1.1 (mw_one hM ha) (ci := ci) (q0 := 0) hcl rfl, pre_M C.2.2.2.2.1 C.2.2.2.2.2 hS hM⟩ rfl hna hl.1 hst (lv_room hW9) hd ⟨show cells + k2 ≤ k0 by omega, show slots + n2 ≤ n0 by omega⟩) hS (fun r M' H1 locs1 hq hM1 hS1 => h r M' hq A p e s m args below meth c C k0 n0 H1 locs1 (cells + k2) (slots + n2) ls hM1 hS1 hl (by omega) (by omega))
theorem V_callVN {i na : Nat} {As : List Value} {k' n' k2 n2 : Nat} {Q' : Option Value → MP → Prop} {b ci N : Nat} {T : u_T} {fs : List Value} (ha : M b = some (.inr (ci, fs))) (hcl : cls[ci]? = some (t'.1.cls, T, N)) (hd : decode t.2.1 pc = .ok (.invokevirtual i, 3)) (ok : OKVN t.1.cls i t' na) (hR : rmf t t') (hna : As.length = na) (hst : st = As.reverse ++ .ref b :: rest) (hW9 : (rest.map fun v => v.category).sum ≤ 8) (hk' : k = k' + k2) (hn' : n = n' + n2) (ct : Ct l D tys t' k2 n2 (.ref b :: As) M Q') (h : ∀ r M', Q' r M' → V l D tys t k' n' (pc + 3) lv (r.toList ++ rest) M' Q) : V l D tys t k n pc lv st M Q := fun A p e s m args below meth c C k0 n0 H locs cells slots ls hM hS hl hk hn => by
  subst hk'; subst hn'
  obtain ⟨⟨o1, o2, o3⟩, ⟨host, o4⟩, o5, o6⟩ := ok
  refine V_back (va_runVN (As := As) (rest := rest) C.1 (ct A) ⟨(va_cnB na C.1.2.2.2.2 (gi_ws o1) rfl rfl rfl (C.2.2.2.2.1.2 _ o4) (gw_ts C.1.2.2.2.2 o2) o3 hR), gw_ts C.1.2.2.2.2 o5, gw_ts C.1.2.2.2.2 o6⟩ ⟨blind_M, va_recv C.2.2.2.2.1.1 (mw_one hM ha) (ci := ci) (q0 := 0) hcl rfl, pre_M C.2.2.2.2.1 C.2.2.2.2.2 hS hM⟩ rfl hna hl.1 hst (lv_room hW9) hd ⟨show cells + k2 ≤ k0 by omega, show slots + n2 ≤ n0 by omega⟩) hS (fun r M' H1 locs1 hq hM1 hS1 => h r M' hq A p e s m args below meth c C k0 n0 H1 locs1 (cells + k2) (slots + n2) ls hM1 hS1 hl (by omega) (by omega))
theorem V_callS {i na : Nat} {As : List Value} {k' n' k2 n2 : Nat} {Q' : Option Value → MP → Prop} (hd : decode t.2.1 pc = .ok (.invokestatic i, 3)) (ok : OKS t.1.cls i t' na) (hR : rmf t t') (hna : As.length = na) (hst : st = As.reverse ++ rest) (hW9 : (rest.map fun v => v.category).sum ≤ 8) (hk' : k = k' + k2) (hn' : n = n' + n2) (ct : Ct l D tys t' k2 n2 (As) M Q') (h : ∀ r M', Q' r M' → V l D tys t k' n' (pc + 3) lv (r.toList ++ rest) M' Q) : V l D tys t k n pc lv st M Q := fun A p e s m args below meth c C k0 n0 H locs cells slots ls hM hS hl hk hn => by
  subst hk'; subst hn'
  obtain ⟨⟨o1, o2, o3⟩, o4, o5⟩ := ok
  refine V_back (va_runS (As := As) (rest := rest) C.1 (ct A) ⟨(callB_of na C.1.2.2.2.2 (gi_ws o1) rfl rfl rfl (gw_ts C.1.2.2.2.2 o2) (gw_ts C.1.2.2.2.2 o4) o3 hR), gw_ts C.1.2.2.2.2 o5⟩ ⟨blind_M, pre_M C.2.2.2.2.1 C.2.2.2.2.2 hS hM⟩ rfl hna hl.1 hst (lv_room hW9) hd ⟨show cells + k2 ≤ k0 by omega, show slots + n2 ≤ n0 by omega⟩) hS (fun r M' H1 locs1 hq hM1 hS1 => h r M' hq A p e s m args below meth c C k0 n0 H1 locs1 (cells + k2) (slots + n2) ls hM1 hS1 hl (by omega) (by omega))
theorem V_callSN {i na : Nat} {As : List Value} {k' n' k2 n2 : Nat} {Q' : Option Value → MP → Prop} (hd : decode t.2.1 pc = .ok (.invokestatic i, 3)) (ok : OKSN t.1.cls i t' na) (hR : rmf t t') (hna : As.length = na) (hst : st = As.reverse ++ rest) (hW9 : (rest.map fun v => v.category).sum ≤ 8) (hk' : k = k' + k2) (hn' : n = n' + n2) (ct : Ct l D tys t' k2 n2 (As) M Q') (h : ∀ r M', Q' r M' → V l D tys t k' n' (pc + 3) lv (r.toList ++ rest) M' Q) : V l D tys t k n pc lv st M Q := fun A p e s m args below meth c C k0 n0 H locs cells slots ls hM hS hl hk hn => by
  subst hk'; subst hn'
  obtain ⟨⟨o1, o2, o3⟩, ⟨host, o4⟩, o5⟩ := ok
  refine V_back (va_runSN (As := As) (rest := rest) C.1 (ct A) ⟨(va_cnB na C.1.2.2.2.2 (gi_ws o1) rfl rfl rfl (C.2.2.2.2.1.2 _ o4) (gw_ts C.1.2.2.2.2 o2) o3 hR), gw_ts C.1.2.2.2.2 o5, trivial⟩ ⟨blind_M, pre_M C.2.2.2.2.1 C.2.2.2.2.2 hS hM⟩ rfl hna hl.1 hst (lv_room hW9) hd ⟨show cells + k2 ≤ k0 by omega, show slots + n2 ≤ n0 by omega⟩) hS (fun r M' H1 locs1 hq hM1 hS1 => h r M' hq A p e s m args below meth c C k0 n0 H1 locs1 (cells + k2) (slots + n2) ls hM1 hS1 hl (by omega) (by omega))
theorem V_callI {i na : Nat} {As : List Value} {k' n' k2 n2 : Nat} {Q' : Option Value → MP → Prop} {b : Nat} (hd : decode t.2.1 pc = .ok (.invokespecial i, 3)) (ok : OKI t.1.cls i t' na) (hR : rmf t t') (hna : As.length = na) (hst : st = As.reverse ++ .ref b :: rest) (hW9 : (rest.map fun v => v.category).sum ≤ 8) (hk' : k = k' + k2) (hn' : n = n' + n2) (ct : Ct l D tys t' k2 n2 (.ref b :: As) M Q') (h : ∀ r M', Q' r M' → V l D tys t k' n' (pc + 3) lv (r.toList ++ rest) M' Q) : V l D tys t k n pc lv st M Q := fun A p e s m args below meth c C k0 n0 H locs cells slots ls hM hS hl hk hn => by
  subst hk'; subst hn'
  obtain ⟨⟨o1, o2, o3⟩, o4, o5, o6, o7⟩ := ok
  refine V_back (va_runI (As := As) (rest := rest) C.1 (ct A) ⟨by have z : CallB (mt_rm t k0 n0) s args t.1.cls i t'.1 t'.2.1 t'.2.2.1 t'.2.2.2.1 (mt_ws t') (mt_rm t' k2 n2) k2 n2 na := (callB_of na C.1.2.2.2.2 (gi_ws o1) rfl rfl rfl (gw_ts C.1.2.2.2.2 o2) (gw_ts C.1.2.2.2.2 o4) o3 hR); rw [o7] at z; exact z, o6, gw_ts C.1.2.2.2.2 o5⟩ ⟨blind_M, pre_M C.2.2.2.2.1 C.2.2.2.2.2 hS hM⟩ rfl hna hl.1 hst (lv_room hW9) hd ⟨show cells + k2 ≤ k0 by omega, show slots + n2 ≤ n0 by omega⟩) hS (fun r M' H1 locs1 hq hM1 hS1 => h r M' hq A p e s m args below meth c C k0 n0 H1 locs1 (cells + k2) (slots + n2) ls hM1 hS1 hl (by omega) (by omega))
theorem V_callIN {i na : Nat} {As : List Value} {k' n' k2 n2 : Nat} {Q' : Option Value → MP → Prop} {b : Nat} (hd : decode t.2.1 pc = .ok (.invokespecial i, 3)) (ok : OKIN t.1.cls i t' na) (hR : rmf t t') (hna : As.length = na) (hst : st = As.reverse ++ .ref b :: rest) (hW9 : (rest.map fun v => v.category).sum ≤ 8) (hk' : k = k' + k2) (hn' : n = n' + n2) (ct : Ct l D tys t' k2 n2 (.ref b :: As) M Q') (h : ∀ r M', Q' r M' → V l D tys t k' n' (pc + 3) lv (r.toList ++ rest) M' Q) : V l D tys t k n pc lv st M Q := fun A p e s m args below meth c C k0 n0 H locs cells slots ls hM hS hl hk hn => by
  subst hk'; subst hn'
  obtain ⟨⟨o1, o2, o3⟩, ⟨host, o4⟩, o5, o6, o7⟩ := ok
  refine V_back (va_runIN (As := As) (rest := rest) C.1 (ct A) ⟨by have z : va_CN (mt_rm t k0 n0) s args t.1.cls i t'.1 host t'.2.1 t'.2.2.1 t'.2.2.2.1 (mt_ws t') (mt_rm t' k2 n2) k2 n2 na := (va_cnB na C.1.2.2.2.2 (gi_ws o1) rfl rfl rfl (C.2.2.2.2.1.2 _ o4) (gw_ts C.1.2.2.2.2 o2) o3 hR); rw [o7] at z; exact z, o6, gw_ts C.1.2.2.2.2 o5⟩ ⟨blind_M, pre_M C.2.2.2.2.1 C.2.2.2.2.2 hS hM⟩ rfl hna hl.1 hst (lv_room hW9) hd ⟨show cells + k2 ≤ k0 by omega, show slots + n2 ≤ n0 by omega⟩) hS (fun r M' H1 locs1 hq hM1 hS1 => h r M' hq A p e s m args below meth c C k0 n0 H1 locs1 (cells + k2) (slots + n2) ls hM1 hS1 hl (by omega) (by omega))
end VH
end
section
section MA
variable {p : Program} {l : Launch} {e : Env} {R : Room} {s : State} {m : MethodId} {args : Array Value} {below : List Frame} {meth : Method} {c : Code} {H : Heap} {locs : List Loc} {cells slots : Nat} {Q : State → Prop}
variable {cc : ByteArray} {pc : Nat} {ls : Array Slot} {rest : List Value} {D : va_G} {cl : List vw_C} {A : Nat → Prop} {a : Nat} {tys : List (ClassId × FieldType)} {M : Nat → Option va_E} {H0 : Heap} {nL : Nat} {Ts : List Cond} {own : String}
theorem mw_last (S : CallFix p m c cc nL s args Ts own) (hK : va_K D cl tys s) (hM : mw D cl A M H) (hS : va_S A H0 H locs) (t0 : Nat) {cA : ClassId} {n : Nat} {f : Nat → Int64} (ha : M a = some (.inl (cA, n, .inr (.inl f)))) (ht : tys[t0]? = some (cA, .long)) {i : Int32} {x : Int64} (hin : vp_in i n) (hdg : decode cc pc = .ok (.lastore, 1))
    (kk : ∀ (H1 : Heap) (locs1 : List Loc), mw D cl A (mu M a (.inl (cA, n, .inr (.inl (vp_updL f i.toNatClampNeg x))))) H1 → va_S A H0 H1 locs1 → W p l e R s m args below meth c H1 locs1 cells slots Q (F0 m (pc + 1) ls rest)) : W p l e R s m args below meth c H locs cells slots Q (F0 m pc ls (.long x :: .int i :: .ref a :: rest)) := by
  obtain ⟨ws, j, hP, hD, hj, hb⟩ := mw_open hM ha
  exact va_last S.1 S.2.1 hK hP hD hS j t0 hj ht hin hdg (fun H1 locs1 hP1 hD1 hS1 => kk H1 locs1 (hb _ H1 hP1 hD1) hS1)
/-- two cells of the world at once -/
theorem mw_open2 (hM : mw D cl A M H) {b : Nat} {e1 e2 : va_E} (ha : M a = some e1) (hb : M b = some e2) : ∃ (ws : va_W) (i j : Nat), va_P D cl ws H ∧ va_D A ws ∧ ws[i]? = some (a, e1) ∧ ws[j]? = some (b, e2) ∧ ∀ (e' : va_E) (H1 : Heap), va_P D cl (ws.set i (a, e')) H1 → va_D A (ws.set i (a, e')) → mw D cl A (mu M a e') H1 := by
  obtain ⟨L, hL, hP, hD⟩ := hM
  have hm : a ∈ L := (hL a).mpr (by rw [ha]; exact fun q => by cases q)
  have hm2 : b ∈ L := (hL b).mpr (by rw [hb]; exact fun q => by cases q)
  obtain ⟨i, hi⟩ := va_pl_get (X := []) (f := mg M) hm
  obtain ⟨j, hj⟩ := va_pl_get (X := []) (f := mg M) hm2
  have hg : mg M a = e1 := by unfold mg; rw [ha]; rfl
  have hg2 : mg M b = e2 := by unfold mg; rw [hb]; rfl
  refine ⟨va_pl L (mg M), i, j, hP, hD, by rw [← hg]; exact hi, by rw [← hg2]; exact hj, fun e' H1 hP1 hD1 => ⟨L, mw_mu hL hm, ?_, ?_⟩⟩
  · have h2 := va_pl_set (X := []) (f := mg M) (e := e') hD hm hi
    rw [mg_mu, ← (show (va_pl L (mg M)).set i (a, e') = va_pl L (va_up (mg M) a e') from h2)]; exact hP1
  · have h2 := va_pl_set (X := []) (f := mg M) (e := e') hD hm hi
    rw [mg_mu, ← (show (va_pl L (mg M)).set i (a, e') = va_pl L (va_up (mg M) a e') from h2)]; exact hD1
theorem mw_astq (S : CallFix p m c cc nL s args Ts own) (hK : va_K D cl tys s) (hM : mw D cl A M H) (hS : va_S A H0 H locs) (t0 ci : Nat) {cA : ClassId} {r : vw_C} {n v : Nat} {vs : List Value} {f : Nat → Option Nat} (ha : M a = some (.inl (cA, n, .inr (.inr (.inr (.inr f)))))) (ht : tys[t0]? = some (cA, .object r.1)) (hv : M v = some (.inr (ci, vs))) (hc : cl[ci]? = some r) {i : Int32} (hin : vp_in i n) (hdg : decode cc pc = .ok (.aastore, 1))
    (kk : ∀ (H1 : Heap) (locs1 : List Loc), mw D cl A (mu M a (.inl (cA, n, .inr (.inr (.inr (.inr (va_up f i.toNatClampNeg (some v)))))))) H1 → va_S A H0 H1 locs1 → W p l e R s m args below meth c H1 locs1 cells slots Q (F0 m (pc + 1) ls rest)) : W p l e R s m args below meth c H locs cells slots Q (F0 m pc ls (.ref v :: .int i :: .ref a :: rest)) := by
  obtain ⟨ws, j, j2, hP, hD, hj, hj2, hb⟩ := mw_open2 hM ha hv
  exact va_astq S.1 S.2.1 hK hP hD hS j t0 j2 ci hj ht hj2 hc hin hdg (fun H1 locs1 hP1 hD1 hS1 => kk H1 locs1 (hb _ H1 hP1 hD1) hS1)
theorem va_K_last {cA : ClassId} {ty : FieldType} (h : va_K D cl (tys ++ [(cA, ty)]) s) : va_RA s cA ty := (h.2 tys.length (cA, ty) (by rw [List.getElem?_append_right (Nat.le_refl _)]; simp)).2
theorem va_RA_inj {cA cB : ClassId} {ty : FieldType} (h1 : va_RA s cA ty) (h2 : va_RA s cB ty) : cA = cB := by
  cases ty with
  | object C =>
    obtain ⟨_, _, _, _, _, e1⟩ := h1
    obtain ⟨_, _, _, _, _, e2⟩ := h2
    exact Option.some.inj (e1.symm.trans e2)
  | _ => exact Option.some.inj (h1.symm.trans h2)
theorem mw_newa (S : CallFix p m c cc nL s args Ts own) (hK : va_K D cl tys s) (hM : mw D cl A M H) (hS : va_S A H0 H locs) (hA : ∀ q, H0.size ≤ q → A q) (t0 : Nat) {atype : ArrayType} (harr : (Cond.arrayClass (newarray.typeOf atype)).before args s = true) {ty : FieldType} (hty : newarray.typeOf atype = ty) {cA : ClassId} (ht : tys[t0]? = some (cA, ty))
    {n : Int32} {N' : Nat} {a0 : vp_A} (ha : ∀ cA : ClassId, vp_cell cA a0 = arrV cA N' (fun _ => defaultValue ty)) (hn : ¬ n < 0) (hN : n.toNatClampNeg = N') (hbytes : N' * componentBytes ty ≤ 536870912) (hcells : cells + 1 ≤ R.cells) (hslots : slots + N' ≤ R.slots) (hdg : decode cc pc = .ok (.newarray atype, 2))
    (kk : ∀ (q : Nat) (H1 : Heap), M q = none → mw D cl A (mu M q (.inl (cA, a0))) H1 → va_S A H0 H1 locs → W p l e R s m args below meth c H1 locs (cells + 1) (slots + N') Q (F0 m (pc + 2) ls (.ref q :: rest))) : W p l e R s m args below meth c H locs cells slots Q (F0 m pc ls (.int n :: rest)) := by
  obtain ⟨ws, hP, hD, hb⟩ := mw_open_new hM
  refine va_newa S.1 S.2.1 harr hty hK hP hD hS hA ha hn hN hbytes hcells hslots hdg (fun q cB H1 hK1 hP1 hD1 hS1 => ?_)
  have hcc : cB = cA := va_RA_inj (va_K_last hK1) (hK.2 t0 _ ht).2
  subst hcc
  exact kk q H1 (hb q _ H1 hP1 hD1).1 (hb q _ H1 hP1 hD1).2 hS1
theorem mw_newq (S : CallFix p m c cc nL s args Ts own) (hK : va_K D cl tys s) (hM : mw D cl A M H) (hS : va_S A H0 H locs) (hA : ∀ q, H0.size ≤ q → A q) (t0 : Nat) {C : String} {index : Nat} (hcl : (Cond.classLink own index C).before args s = true) (hover : va_AO C s) {cA : ClassId} (ht : tys[t0]? = some (cA, .object C))
    {n : Int32} {N' : Nat} (hn : ¬ n < 0) (hN : n.toNatClampNeg = N') (hbytes : N' * 4 ≤ 536870912) (hcells : cells + 1 ≤ R.cells) (hslots : slots + N' ≤ R.slots) (hdg : decode cc pc = .ok (.anewarray index, 3))
    (kk : ∀ (q : Nat) (H1 : Heap), M q = none → mw D cl A (mu M q (.inl (cA, N', .inr (.inr (.inr (.inr (fun _ => none))))))) H1 → va_S A H0 H1 locs → W p l e R s m args below meth c H1 locs (cells + 1) (slots + N') Q (F0 m (pc + 3) ls (.ref q :: rest))) : W p l e R s m args below meth c H locs cells slots Q (F0 m pc ls (.int n :: rest)) := by
  obtain ⟨ws, hP, hD, hb⟩ := mw_open_new hM
  refine va_newq S.1 S.2.1 S.2.2.2.1 hcl hover hK hP hD hS hA hn hN hbytes hcells hslots hdg (fun q cB H1 hK1 hP1 hD1 hS1 => ?_)
  have hcc : cB = cA := va_RA_inj (va_K_last hK1) (hK.2 t0 _ ht).2
  subst hcc
  exact kk q H1 (hb q _ H1 hP1 hD1).1 (hb q _ H1 hP1 hD1).2 hS1
end MA
section VA
variable {l : Launch} {D : va_G} {ac : Nat → ClassId} {t : MT} {k n pc : Nat} {lv : List (Nat × Value)} {st : List Value} {M : MP} {Q : Option Value → MP → Prop}
theorem V_iald {a N : Nat} {f : Nat → Int32} {i : Int32} (hd : decode t.2.1 pc = .ok (.iaload, 1)) (ha : M a = some (.inl (ac 0, N, .inl f))) (hin : vp_in i N) (h : V l D (tyl ac) t k n (pc + 1) lv (.int (f i.toNatClampNeg) :: st) M Q) : V l D (tyl ac) t k n pc lv (.int i :: .ref a :: st) M Q := fun A p e s m args below meth c C k0 n0 H locs cells slots ls hM hS hl hk hn => mw_iald C.1 C.2.2.2.2.1.1 hM 0 ha rfl hin hd (h A p e s m args below meth c C k0 n0 H locs cells slots ls hM hS hl hk hn)
theorem V_bald {a N : Nat} {f : Nat → Int32} {i : Int32} (hd : decode t.2.1 pc = .ok (.baload, 1)) (ha : M a = some (.inl (ac 1, N, .inl f))) (hin : vp_in i N) (h : V l D (tyl ac) t k n (pc + 1) lv (.int (f i.toNatClampNeg) :: st) M Q) : V l D (tyl ac) t k n pc lv (.int i :: .ref a :: st) M Q := fun A p e s m args below meth c C k0 n0 H locs cells slots ls hM hS hl hk hn => mw_bald C.1 C.2.2.2.2.1.1 hM 1 ha rfl hin hd (h A p e s m args below meth c C k0 n0 H locs cells slots ls hM hS hl hk hn)
theorem V_zald {a N : Nat} {f : Nat → Int32} {i : Int32} (hd : decode t.2.1 pc = .ok (.baload, 1)) (ha : M a = some (.inl (ac 2, N, .inl f))) (hin : vp_in i N) (h : V l D (tyl ac) t k n (pc + 1) lv (.int (f i.toNatClampNeg) :: st) M Q) : V l D (tyl ac) t k n pc lv (.int i :: .ref a :: st) M Q := fun A p e s m args below meth c C k0 n0 H locs cells slots ls hM hS hl hk hn => mw_zald C.1 C.2.2.2.2.1.1 hM 2 ha rfl hin hd (h A p e s m args below meth c C k0 n0 H locs cells slots ls hM hS hl hk hn)
theorem V_lald {a N : Nat} {f : Nat → Int64} {i : Int32} (hd : decode t.2.1 pc = .ok (.laload, 1)) (ha : M a = some (.inl (ac 3, N, .inr (.inl f)))) (hin : vp_in i N) (h : V l D (tyl ac) t k n (pc + 1) lv (.long (f i.toNatClampNeg) :: st) M Q) : V l D (tyl ac) t k n pc lv (.int i :: .ref a :: st) M Q := fun A p e s m args below meth c C k0 n0 H locs cells slots ls hM hS hl hk hn => mw_lald C.1 C.2.2.2.2.1.1 hM 3 ha rfl hin hd (h A p e s m args below meth c C k0 n0 H locs cells slots ls hM hS hl hk hn)
theorem V_aald {a N : Nat} {f : Nat → Option Nat} {i : Int32} (hd : decode t.2.1 pc = .ok (.aaload, 1)) (ha : M a = some (.inl (ac 4, N, .inr (.inr (.inr (.inr f)))))) (hin : vp_in i N) (h : V l D (tyl ac) t k n (pc + 1) lv (va_rf (f i.toNatClampNeg) :: st) M Q) : V l D (tyl ac) t k n pc lv (.int i :: .ref a :: st) M Q := fun A p e s m args below meth c C k0 n0 H locs cells slots ls hM hS hl hk hn => mw_aldq C.1 C.2.2.2.2.1.1 hM 4 ha rfl hin hd (h A p e s m args below meth c C k0 n0 H locs cells slots ls hM hS hl hk hn)
theorem V_alen {a : Nat} {j : Nat} {ty : FieldType} {x : vp_A} {v : Int32} (hd : decode t.2.1 pc = .ok (.arraylength, 1)) (hj : (tyl ac)[j]? = some (ac j, ty)) (ha : M a = some (.inl (ac j, x))) (hv : Int32.ofNat x.1 = v) (h : V l D (tyl ac) t k n (pc + 1) lv (.int v :: st) M Q) : V l D (tyl ac) t k n pc lv (.ref a :: st) M Q := fun A p e s m args below meth c C k0 n0 H locs cells slots ls hM hS hl hk hn => mw_alen C.1 C.2.2.2.2.1.1 hM j ha hj hv hd (h A p e s m args below meth c C k0 n0 H locs cells slots ls hM hS hl hk hn)
theorem V_iast {a N : Nat} {f : Nat → Int32} {i : Int32} {x : Int32} (hd : decode t.2.1 pc = .ok (.iastore, 1)) (ha : M a = some (.inl (ac 0, N, .inl f))) (hin : vp_in i N) (h : V l D (tyl ac) t k n (pc + 1) lv st (mu M a (.inl (ac 0, N, .inl (upd f i.toNatClampNeg (vp_nar .int x))))) Q) : V l D (tyl ac) t k n pc lv (.int x :: .int i :: .ref a :: st) M Q := fun A p e s m args below meth c C k0 n0 H locs cells slots ls hM hS hl hk hn => mw_iast C.1 C.2.2.2.2.1.1 hM hS 0 ha rfl hin hd (fun H locs hM hS => h A p e s m args below meth c C k0 n0 H locs cells slots ls hM hS hl hk hn)
theorem V_bast {a N : Nat} {f : Nat → Int32} {i : Int32} {x : Int32} (hd : decode t.2.1 pc = .ok (.bastore, 1)) (ha : M a = some (.inl (ac 1, N, .inl f))) (hin : vp_in i N) (h : V l D (tyl ac) t k n (pc + 1) lv st (mu M a (.inl (ac 1, N, .inl (upd f i.toNatClampNeg (vp_nar .byte x))))) Q) : V l D (tyl ac) t k n pc lv (.int x :: .int i :: .ref a :: st) M Q := fun A p e s m args below meth c C k0 n0 H locs cells slots ls hM hS hl hk hn => mw_bast C.1 C.2.2.2.2.1.1 hM hS 1 ha rfl hin hd (fun H locs hM hS => h A p e s m args below meth c C k0 n0 H locs cells slots ls hM hS hl hk hn)
theorem V_zast {a N : Nat} {f : Nat → Int32} {i : Int32} {x : Int32} (hd : decode t.2.1 pc = .ok (.bastore, 1)) (ha : M a = some (.inl (ac 2, N, .inl f))) (hin : vp_in i N) (h : V l D (tyl ac) t k n (pc + 1) lv st (mu M a (.inl (ac 2, N, .inl (upd f i.toNatClampNeg (vp_nar .boolean x))))) Q) : V l D (tyl ac) t k n pc lv (.int x :: .int i :: .ref a :: st) M Q := fun A p e s m args below meth c C k0 n0 H locs cells slots ls hM hS hl hk hn => mw_zast C.1 C.2.2.2.2.1.1 hM hS 2 ha rfl hin hd (fun H locs hM hS => h A p e s m args below meth c C k0 n0 H locs cells slots ls hM hS hl hk hn)
theorem V_last {a N : Nat} {f : Nat → Int64} {i : Int32} {x : Int64} (hd : decode t.2.1 pc = .ok (.lastore, 1)) (ha : M a = some (.inl (ac 3, N, .inr (.inl f)))) (hin : vp_in i N) (h : V l D (tyl ac) t k n (pc + 1) lv st (mu M a (.inl (ac 3, N, .inr (.inl (vp_updL f i.toNatClampNeg x))))) Q) : V l D (tyl ac) t k n pc lv (.long x :: .int i :: .ref a :: st) M Q := fun A p e s m args below meth c C k0 n0 H locs cells slots ls hM hS hl hk hn => mw_last C.1 C.2.2.2.2.1.1 hM hS 3 ha rfl hin hd (fun H locs hM hS => h A p e s m args below meth c C k0 n0 H locs cells slots ls hM hS hl hk hn)
theorem V_aastN {a N : Nat} {f : Nat → Option Nat} {i : Int32} (hd : decode t.2.1 pc = .ok (.aastore, 1)) (ha : M a = some (.inl (ac 4, N, .inr (.inr (.inr (.inr f)))))) (hin : vp_in i N) (h : V l D (tyl ac) t k n (pc + 1) lv st (mu M a (.inl (ac 4, N, .inr (.inr (.inr (.inr (va_up f i.toNatClampNeg none))))))) Q) : V l D (tyl ac) t k n pc lv (.null :: .int i :: .ref a :: st) M Q := fun A p e s m args below meth c C k0 n0 H locs cells slots ls hM hS hl hk hn => mw_astqN C.1 C.2.2.2.2.1.1 hM hS 4 ha rfl hin hd (fun H locs hM hS => h A p e s m args below meth c C k0 n0 H locs cells slots ls hM hS hl hk hn)
theorem V_aast {a v N : Nat} {vs : List Value} {f : Nat → Option Nat} {i : Int32} (hd : decode t.2.1 pc = .ok (.aastore, 1)) (ha : M a = some (.inl (ac 4, N, .inr (.inr (.inr (.inr f)))))) (hv : M v = some (.inr (1, vs))) (hin : vp_in i N) (h : V l D (tyl ac) t k n (pc + 1) lv st (mu M a (.inl (ac 4, N, .inr (.inr (.inr (.inr (va_up f i.toNatClampNeg (some v)))))))) Q) : V l D (tyl ac) t k n pc lv (.ref v :: .int i :: .ref a :: st) M Q := fun A p e s m args below meth c C k0 n0 H locs cells slots ls hM hS hl hk hn => mw_astq (r := (R_Box, T_Box, 7)) C.1 C.2.2.2.2.1.1 hM hS 4 1 ha rfl hv rfl hin hd (fun H locs hM hS => h A p e s m args below meth c C k0 n0 H locs cells slots ls hM hS hl hk hn)
theorem V_newi {N k' n' : Nat} {x : Int32} (hd : decode t.2.1 pc = .ok (.newarray .int, 2)) (hw : Cond.arrayClass .int ∈ gw) (hx : ¬ x < 0) (hN : x.toNatClampNeg = N) (hb : N * 8 ≤ 536870912) (hk' : k = k' + 1) (hn' : n = n' + N) (h : ∀ q, M q = none → V l D (tyl ac) t k' n' (pc + 2) lv (.ref q :: st) (mu M q (.inl (ac 0, N, .inl (fun _ => 0)))) Q) : V l D (tyl ac) t k n pc lv (.int x :: st) M Q := fun A p e s m args below meth c C k0 n0 H locs cells slots ls hM hS hl hk hn => by
  subst hk'; subst hn'
  exact mw_newa (atype := .int) (ty := .int) (a0 := (N, .inl (fun _ => 0))) C.1 C.2.2.2.2.1.1 hM hS C.2.2.2.2.2 0 (gw_ts C.1.2.2.2.2 hw) rfl rfl (fun _ => rfl) hx hN (by simp only [componentBytes]; omega) (show cells + 1 ≤ k0 by omega) (show slots + N ≤ n0 by omega) hd (fun q H1 hq hM1 hS1 => h q hq A p e s m args below meth c C k0 n0 H1 locs (cells + 1) (slots + N) ls hM1 hS1 hl (by omega) (by omega))
theorem V_newb {N k' n' : Nat} {x : Int32} (hd : decode t.2.1 pc = .ok (.newarray .byte, 2)) (hw : Cond.arrayClass .byte ∈ gw) (hx : ¬ x < 0) (hN : x.toNatClampNeg = N) (hb : N * 8 ≤ 536870912) (hk' : k = k' + 1) (hn' : n = n' + N) (h : ∀ q, M q = none → V l D (tyl ac) t k' n' (pc + 2) lv (.ref q :: st) (mu M q (.inl (ac 1, N, .inl (fun _ => 0)))) Q) : V l D (tyl ac) t k n pc lv (.int x :: st) M Q := fun A p e s m args below meth c C k0 n0 H locs cells slots ls hM hS hl hk hn => by
  subst hk'; subst hn'
  exact mw_newa (atype := .byte) (ty := .byte) (a0 := (N, .inl (fun _ => 0))) C.1 C.2.2.2.2.1.1 hM hS C.2.2.2.2.2 1 (gw_ts C.1.2.2.2.2 hw) rfl rfl (fun _ => rfl) hx hN (by simp only [componentBytes]; omega) (show cells + 1 ≤ k0 by omega) (show slots + N ≤ n0 by omega) hd (fun q H1 hq hM1 hS1 => h q hq A p e s m args below meth c C k0 n0 H1 locs (cells + 1) (slots + N) ls hM1 hS1 hl (by omega) (by omega))
theorem V_newz {N k' n' : Nat} {x : Int32} (hd : decode t.2.1 pc = .ok (.newarray .boolean, 2)) (hw : Cond.arrayClass .boolean ∈ gw) (hx : ¬ x < 0) (hN : x.toNatClampNeg = N) (hb : N * 8 ≤ 536870912) (hk' : k = k' + 1) (hn' : n = n' + N) (h : ∀ q, M q = none → V l D (tyl ac) t k' n' (pc + 2) lv (.ref q :: st) (mu M q (.inl (ac 2, N, .inl (fun _ => 0)))) Q) : V l D (tyl ac) t k n pc lv (.int x :: st) M Q := fun A p e s m args below meth c C k0 n0 H locs cells slots ls hM hS hl hk hn => by
  subst hk'; subst hn'
  exact mw_newa (atype := .boolean) (ty := .boolean) (a0 := (N, .inl (fun _ => 0))) C.1 C.2.2.2.2.1.1 hM hS C.2.2.2.2.2 2 (gw_ts C.1.2.2.2.2 hw) rfl rfl (fun _ => rfl) hx hN (by simp only [componentBytes]; omega) (show cells + 1 ≤ k0 by omega) (show slots + N ≤ n0 by omega) hd (fun q H1 hq hM1 hS1 => h q hq A p e s m args below meth c C k0 n0 H1 locs (cells + 1) (slots + N) ls hM1 hS1 hl (by omega) (by omega))
theorem V_newl {N k' n' : Nat} {x : Int32} (hd : decode t.2.1 pc = .ok (.newarray .long, 2)) (hw : Cond.arrayClass .long ∈ gw) (hx : ¬ x < 0) (hN : x.toNatClampNeg = N) (hb : N * 8 ≤ 536870912) (hk' : k = k' + 1) (hn' : n = n' + N) (h : ∀ q, M q = none → V l D (tyl ac) t k' n' (pc + 2) lv (.ref q :: st) (mu M q (.inl (ac 3, N, .inr (.inl (fun _ => 0))))) Q) : V l D (tyl ac) t k n pc lv (.int x :: st) M Q := fun A p e s m args below meth c C k0 n0 H locs cells slots ls hM hS hl hk hn => by
  subst hk'; subst hn'
  exact mw_newa (atype := .long) (ty := .long) (a0 := (N, .inr (.inl (fun _ => 0)))) C.1 C.2.2.2.2.1.1 hM hS C.2.2.2.2.2 3 (gw_ts C.1.2.2.2.2 hw) rfl rfl (fun _ => rfl) hx hN (by simp only [componentBytes]; omega) (show cells + 1 ≤ k0 by omega) (show slots + N ≤ n0 by omega) hd (fun q H1 hq hM1 hS1 => h q hq A p e s m args below meth c C k0 n0 H1 locs (cells + 1) (slots + N) ls hM1 hS1 hl (by omega) (by omega))
theorem V_newq {N k' n' i : Nat} {x : Int32} (hd : decode t.2.1 pc = .ok (.anewarray i, 3)) (hw : Cond.classLink t.1.cls i R_Box ∈ gw) (hov : Cond.arrayOver (.object R_Box) ∈ nw) (hx : ¬ x < 0) (hN : x.toNatClampNeg = N) (hb : N * 4 ≤ 536870912) (hk' : k = k' + 1) (hn' : n = n' + N) (h : ∀ q, M q = none → V l D (tyl ac) t k' n' (pc + 3) lv (.ref q :: st) (mu M q (.inl (ac 4, N, .inr (.inr (.inr (.inr (fun _ => none))))))) Q) : V l D (tyl ac) t k n pc lv (.int x :: st) M Q := fun A p e s m args below meth c C k0 n0 H locs cells slots ls hM hS hl hk hn => by
  subst hk'; subst hn'
  exact mw_newq C.1 C.2.2.2.2.1.1 hM hS C.2.2.2.2.2 4 (gw_ts C.1.2.2.2.2 hw) (C.2.2.2.2.1.2 _ hov) rfl hx hN hb (show cells + 1 ≤ k0 by omega) (show slots + N ≤ n0 by omega) hd (fun q H1 hq hM1 hS1 => h q hq A p e s m args below meth c C k0 n0 H1 locs (cells + 1) (slots + N) ls hM1 hS1 hl (by omega) (by omega))
theorem V_maxi {i : Nat} {x y : Int32} (hd : decode t.2.1 pc = .ok (.invokestatic i, 3)) (h1 : Cond.methodLink t.1.cls i Lib.Math.max.name ∈ gw) (h2 : Cond.static Lib.Math.max.name ∈ gw) (h3 : Cond.initialized "java/lang/Math" ∈ gw) (h4 : Cond.code Lib.Math.max.name Lib.Math.max.code 2 (some .int) ∈ gw) (hfr : 1 ≤ t.2.2.2.2.1) (hlo : (st.map fun v => v.category).sum + 13 ≤ t.2.2.2.2.2) (h : V l D (tyl ac) t k n (pc + 3) lv (.int (if x < y then y else x) :: st) M Q) : V l D (tyl ac) t k n pc lv (.int y :: .int x :: st) M Q := fun A p e s m args below meth c C k0 n0 H locs cells slots ls hM hS hl hk hn => va_mmax C.1.1 C.1.2.1 (C.1.2.2.1.trans hl.1.symm) C.1.2.2.2.1 (gw_ts C.1.2.2.2.2 h1) (gw_ts C.1.2.2.2.2 h2) (gw_ts C.1.2.2.2.2 h3) (gw_ts C.1.2.2.2.2 h4) hfr hlo (show cells ≤ k0 by omega) (show slots ≤ n0 by omega) hd (h A p e s m args below meth c C k0 n0 H locs cells slots ls hM hS hl hk hn)
theorem V_maxl {i : Nat} {x y : Int64} (hd : decode t.2.1 pc = .ok (.invokestatic i, 3)) (h1 : Cond.methodLink t.1.cls i Lib.MathLoose.max_long.x ∈ gw) (h2 : Cond.static Lib.MathLoose.max_long.x ∈ gw) (h3 : Cond.initialized "java/lang/Math" ∈ gw) (h4 : Cond.code Lib.MathLoose.max_long.x Lib.MathLoose.max_long.code 4 (some .long) ∈ gw) (hfr : 1 ≤ t.2.2.2.2.1) (hlo : (st.map fun v => v.category).sum + 15 ≤ t.2.2.2.2.2) (h : V l D (tyl ac) t k n (pc + 3) lv (.long (if y < x then x else y) :: st) M Q) : V l D (tyl ac) t k n pc lv (.long y :: .long x :: st) M Q := fun A p e s m args below meth c C k0 n0 H locs cells slots ls hM hS hl hk hn => va_mmax_long C.1.1 C.1.2.1 (C.1.2.2.1.trans hl.1.symm) C.1.2.2.2.1 (gw_ts C.1.2.2.2.2 h1) (gw_ts C.1.2.2.2.2 h2) (gw_ts C.1.2.2.2.2 h3) (gw_ts C.1.2.2.2.2 h4) hfr hlo (show cells ≤ k0 by omega) (show slots ≤ n0 by omega) hd (h A p e s m args below meth c C k0 n0 H locs cells slots ls hM hS hl hk hn)
theorem V_tabOut {d lo hi : Int} {offs : Array Int} {len : Nat} {x : Int32} (tgt : Nat) (hd : decode t.2.1 pc = .ok (.tableswitch d lo hi offs, len)) (hx : x.toInt < lo ∨ hi < x.toInt) (ht : (pc : Int) + d = (tgt : Int)) (h : V l D (tyl ac) t k n tgt lv st M Q) : V l D (tyl ac) t k n pc lv (.int x :: st) M Q := fun A p e s m args below meth c C k0 n0 H locs cells slots ls hM hS hl hk hn => lv_tableOut C.1.1 C.1.2.1 hd hx ht (h A p e s m args below meth c C k0 n0 H locs cells slots ls hM hS hl hk hn)
theorem V_tabIn {d lo hi off : Int} {offs : Array Int} {len : Nat} {x : Int32} (tgt : Nat) (hd : decode t.2.1 pc = .ok (.tableswitch d lo hi offs, len)) (h1 : ¬ x.toInt < lo) (h2 : ¬ hi < x.toInt) (ho : offs[(x.toInt - lo).toNat]? = some off) (ht : (pc : Int) + off = (tgt : Int)) (h : V l D (tyl ac) t k n tgt lv st M Q) : V l D (tyl ac) t k n pc lv (.int x :: st) M Q := fun A p e s m args below meth c C k0 n0 H locs cells slots ls hM hS hl hk hn => lv_tableIn C.1.1 C.1.2.1 hd h1 h2 ho ht (h A p e s m args below meth c C k0 n0 H locs cells slots ls hM hS hl hk hn)
theorem V_irem {x y : Int32} (hd : decode t.2.1 pc = .ok (.irem, 1)) (hy : ¬ y = 0) (h : V l D (tyl ac) t k n (pc + 1) lv (.int (x - x / y * y) :: st) M Q) : V l D (tyl ac) t k n pc lv (.int y :: .int x :: st) M Q := fun A p e s m args below meth c C k0 n0 H locs cells slots ls hM hS hl hk hn => lv_irem C.1.1 C.1.2.1 hd hy (h A p e s m args below meth c C k0 n0 H locs cells slots ls hM hS hl hk hn)
end VA
end
section
abbrev b_Byt_init : ByteArray := prog_3_method_1_code
def y_Byt_init : MethodName := ⟨R_Byt, "<init>", "()V"⟩
abbrev t_Byt_init : MT := (y_Byt_init, b_Byt_init, 1, none, 1, 12)
abbrev b_Byt_add : ByteArray := prog_3_method_2_code
def y_Byt_add : MethodName := ⟨R_Byt, "add", "(II)V"⟩
abbrev t_Byt_add : MT := (y_Byt_add, b_Byt_add, 4, none, 2, 65)
abbrev b_Byt_get : ByteArray := prog_3_method_3_code
def y_Byt_get : MethodName := ⟨R_Byt, "get", "(I)I"⟩
abbrev t_Byt_get : MT := (y_Byt_get, b_Byt_get, 2, (some .int), 0, 0)
abbrev b_Byt_cutTo : ByteArray := prog_3_method_4_code
def y_Byt_cutTo : MethodName := ⟨R_Byt, "cutTo", "(I)V"⟩
abbrev t_Byt_cutTo : MT := (y_Byt_cutTo, b_Byt_cutTo, 2, none, 0, 0)
abbrev b_Fon_init : ByteArray := prog_4_method_1_code
def y_Fon_init : MethodName := ⟨R_Fon, "<init>", "()V"⟩
abbrev t_Fon_init : MT := (y_Fon_init, b_Fon_init, 1, none, 1, 12)
abbrev b_Fon_keep : ByteArray := prog_4_method_2_code
def y_Fon_keep : MethodName := ⟨R_Fon, "keep", "(III)V"⟩
abbrev t_Fon_keep : MT := (y_Fon_keep, b_Fon_keep, 4, none, 1, 20)
abbrev b_Fon_isUsed : ByteArray := prog_4_method_3_code
def y_Fon_isUsed : MethodName := ⟨R_Fon, "isUsed", "(I)Z"⟩
abbrev t_Fon_isUsed : MT := (y_Fon_isUsed, b_Fon_isUsed, 2, (some .boolean), 1, 20)
abbrev b_Fon_write : ByteArray := prog_4_method_4_code
def y_Fon_write : MethodName := ⟨R_Fon, "write", "(ILPageFile$Bytes;)V"⟩
abbrev t_Fon_write : MT := (y_Fon_write, b_Fon_write, 3, none, 3, 88)
abbrev b_Trk_init : ByteArray := prog_9_method_1_code
def y_Trk_init : MethodName := ⟨R_Trk, "<init>", "(I)V"⟩
abbrev t_Trk_init : MT := (y_Trk_init, b_Trk_init, 2, none, 1, 12)
abbrev b_Trk_restart : ByteArray := prog_9_method_2_code
def y_Trk_restart : MethodName := ⟨R_Trk, "restart", "()V"⟩
abbrev t_Trk_restart : MT := (y_Trk_restart, b_Trk_restart, 1, none, 0, 0)
abbrev b_Trk_become : ByteArray := prog_9_method_3_code
def y_Trk_become : MethodName := ⟨R_Trk, "become", "(LPageFile$Track;)V"⟩
abbrev t_Trk_become : MT := (y_Trk_become, b_Trk_become, 2, none, 0, 0)
abbrev b_Trk_goTo : ByteArray := prog_9_method_4_code
def y_Trk_goTo : MethodName := ⟨R_Trk, "goTo", "(ILPageFile$Bytes;)Z"⟩
abbrev t_Trk_goTo : MT := (y_Trk_goTo, b_Trk_goTo, 8, (some .boolean), 3, 88)
abbrev b_Trk_fewestBytes : ByteArray := prog_9_method_5_code
def y_Trk_fewestBytes : MethodName := ⟨R_Trk, "fewestBytes", "(J)I"⟩
abbrev t_Trk_fewestBytes : MT := (y_Trk_fewestBytes, b_Trk_fewestBytes, 2, (some .int), 0, 0)
abbrev b_Itm_init : ByteArray := prog_6_method_1_code
def y_Itm_init : MethodName := ⟨R_Itm, "<init>", "(IIII)V"⟩
abbrev t_Itm_init : MT := (y_Itm_init, b_Itm_init, 5, none, 1, 12)
abbrev b_Box_init : ByteArray := prog_2_method_1_code
def y_Box_init : MethodName := ⟨R_Box, "<init>", "(LPageFile$OpenList;III)V"⟩
abbrev t_Box_init : MT := (y_Box_init, b_Box_init, 5, none, 1, 12)
abbrev b_OpL_init : ByteArray := prog_7_method_1_code
def y_OpL_init : MethodName := ⟨R_OpL, "<init>", "(ZLPageFile$OpenList;)V"⟩
abbrev t_OpL_init : MT := (y_OpL_init, b_OpL_init, 3, none, 1, 12)
abbrev b_OpL_join : ByteArray := prog_7_method_2_code
def y_OpL_join : MethodName := ⟨R_OpL, "join", "(LPageFile$Item;)V"⟩
abbrev t_OpL_join : MT := (y_OpL_join, b_OpL_join, 2, none, 2, 44)
abbrev b_OpL_measureAcross : ByteArray := prog_7_method_3_code
def y_OpL_measureAcross : MethodName := ⟨R_OpL, "measureAcross", "(LPageFile$Item;)V"⟩
abbrev t_OpL_measureAcross : MT := (y_OpL_measureAcross, b_OpL_measureAcross, 2, none, 1, 23)
abbrev b_OpL_measureDown : ByteArray := prog_7_method_4_code
def y_OpL_measureDown : MethodName := ⟨R_OpL, "measureDown", "(LPageFile$Item;)V"⟩
abbrev t_OpL_measureDown : MT := (y_OpL_measureDown, b_OpL_measureDown, 2, none, 1, 23)
abbrev b_OpL_toBox : ByteArray := prog_7_method_5_code
def y_OpL_toBox : MethodName := ⟨R_OpL, "toBox", "()LPageFile$Box;"⟩
abbrev t_OpL_toBox : MT := (y_OpL_toBox, b_OpL_toBox, 1, (some (.object "PageFile$Box")), 2, 46)
abbrev b_Fra_init : ByteArray := prog_5_method_1_code
def y_Fra_init : MethodName := ⟨R_Fra, "<init>", "(LPageFile$Frame;)V"⟩
abbrev t_Fra_init : MT := (y_Fra_init, b_Fra_init, 2, none, 2, 33)
abbrev b_Fra_inside : ByteArray := prog_5_method_2_code
def y_Fra_inside : MethodName := ⟨R_Fra, "inside", "()LPageFile$Frame;"⟩
abbrev t_Fra_inside : MT := (y_Fra_inside, b_Fra_inside, 1, (some (.object "PageFile$Frame")), 3, 54)
abbrev b_Fra_begin : ByteArray := prog_5_method_3_code
def y_Fra_begin : MethodName := ⟨R_Fra, "begin", "(LPageFile$Box;LPageFile$Track;LPageFile$Track;)V"⟩
abbrev t_Fra_begin : MT := (y_Fra_begin, b_Fra_begin, 4, none, 1, 21)
abbrev b_Fra_widthOf : ByteArray := prog_5_method_4_code
def y_Fra_widthOf : MethodName := ⟨R_Fra, "widthOf", "(LPageFile$Item;)I"⟩
abbrev t_Fra_widthOf : MT := (y_Fra_widthOf, b_Fra_widthOf, 2, (some .int), 0, 0)
abbrev b_Fra_heightOf : ByteArray := prog_5_method_5_code
def y_Fra_heightOf : MethodName := ⟨R_Fra, "heightOf", "(LPageFile$Item;)I"⟩
abbrev t_Fra_heightOf : MT := (y_Fra_heightOf, b_Fra_heightOf, 2, (some .int), 0, 0)
abbrev b_Fra_depthOf : ByteArray := prog_5_method_6_code
def y_Fra_depthOf : MethodName := ⟨R_Fra, "depthOf", "(LPageFile$Item;)I"⟩
abbrev t_Fra_depthOf : MT := (y_Fra_depthOf, b_Fra_depthOf, 2, (some .int), 0, 0)
abbrev b_Fra_extentOf : ByteArray := prog_5_method_7_code
def y_Fra_extentOf : MethodName := ⟨R_Fra, "extentOf", "(LPageFile$Item;)J"⟩
abbrev t_Fra_extentOf : MT := (y_Fra_extentOf, b_Fra_extentOf, 2, (some .long), 1, 21)
abbrev b_Fra_rightOf : ByteArray := prog_5_method_8_code
def y_Fra_rightOf : MethodName := ⟨R_Fra, "rightOf", "(LPageFile$Item;)J"⟩
abbrev t_Fra_rightOf : MT := (y_Fra_rightOf, b_Fra_rightOf, 2, (some .long), 0, 0)
abbrev b_Fra_downOf : ByteArray := prog_5_method_9_code
def y_Fra_downOf : MethodName := ⟨R_Fra, "downOf", "(LPageFile$Item;)J"⟩
abbrev t_Fra_downOf : MT := (y_Fra_downOf, b_Fra_downOf, 2, (some .long), 2, 42)
abbrev b_Fra_behind : ByteArray := prog_5_method_10_code
def y_Fra_behind : MethodName := ⟨R_Fra, "behind", "(LPageFile$Item;)J"⟩
abbrev t_Fra_behind : MT := (y_Fra_behind, b_Fra_behind, 2, (some .long), 2, 42)
abbrev b_PgW_init : ByteArray := prog_8_method_1_code
def y_PgW_init : MethodName := ⟨R_PgW, "<init>", "()V"⟩
abbrev t_PgW_init : MT := (y_PgW_init, b_PgW_init, 1, none, 3, 54)
abbrev b_PgW_writeBox : ByteArray := prog_8_method_2_code
def y_PgW_writeBox : MethodName := ⟨R_PgW, "writeBox", "(LPageFile$Box;)Z"⟩
abbrev t_PgW_writeBox : MT := (y_PgW_writeBox, b_PgW_writeBox, 5, (some .boolean), 6, 165)
abbrev b_PgW_writeItem : ByteArray := prog_8_method_3_code
def y_PgW_writeItem : MethodName := ⟨R_PgW, "writeItem", "(LPageFile$Frame;LPageFile$Item;)LPageFile$Frame;"⟩
abbrev t_PgW_writeItem : MT := (y_PgW_writeItem, b_PgW_writeItem, 9, (some (.object "PageFile$Frame")), 5, 137)
abbrev b_PgW_canStand : ByteArray := prog_8_method_4_code
def y_PgW_canStand : MethodName := ⟨R_PgW, "canStand", "(LPageFile$Frame;LPageFile$Item;J)Z"⟩
abbrev t_PgW_canStand : MT := (y_PgW_canStand, b_PgW_canStand, 4, (some .boolean), 2, 42)
abbrev b_PgW_isWritten : ByteArray := prog_8_method_5_code
def y_PgW_isWritten : MethodName := ⟨R_PgW, "isWritten", "(LPageFile$Frame;LPageFile$Item;)Z"⟩
abbrev t_PgW_isWritten : MT := (y_PgW_isWritten, b_PgW_isWritten, 2, (some .boolean), 2, 42)
abbrev b_PgW_moveTo : ByteArray := prog_8_method_6_code
def y_PgW_moveTo : MethodName := ⟨R_PgW, "moveTo", "(II)V"⟩
abbrev t_PgW_moveTo : MT := (y_PgW_moveTo, b_PgW_moveTo, 3, none, 4, 115)
abbrev b_PgW_writeCharacter : ByteArray := prog_8_method_7_code
def y_PgW_writeCharacter : MethodName := ⟨R_PgW, "writeCharacter", "(LPageFile$Item;)V"⟩
abbrev t_PgW_writeCharacter : MT := (y_PgW_writeCharacter, b_PgW_writeCharacter, 2, none, 4, 110)
abbrev b_PgW_writeRule : ByteArray := prog_8_method_8_code
def y_PgW_writeRule : MethodName := ⟨R_PgW, "writeRule", "(LPageFile$Frame;LPageFile$Item;)V"⟩
abbrev t_PgW_writeRule : MT := (y_PgW_writeRule, b_PgW_writeRule, 3, none, 3, 88)
abbrev b_PgW_enter : ByteArray := prog_8_method_9_code
def y_PgW_enter : MethodName := ⟨R_PgW, "enter", "(LPageFile$Frame;LPageFile$Box;)LPageFile$Frame;"⟩
abbrev t_PgW_enter : MT := (y_PgW_enter, b_PgW_enter, 3, (some (.object "PageFile$Frame")), 3, 88)
abbrev b_PgW_leave : ByteArray := prog_8_method_10_code
def y_PgW_leave : MethodName := ⟨R_PgW, "leave", "(LPageFile$Frame;)LPageFile$Frame;"⟩
abbrev t_PgW_leave : MT := (y_PgW_leave, b_PgW_leave, 2, (some (.object "PageFile$Frame")), 3, 88)
abbrev b_PF_init : ByteArray := prog_1_method_1_code
def y_PF_init : MethodName := ⟨R_PF, "<init>", "()V"⟩
abbrev t_PF_init : MT := (y_PF_init, b_PF_init, 1, none, 4, 74)
abbrev b_PF_font : ByteArray := prog_1_method_2_code
def y_PF_font : MethodName := ⟨R_PF, "font", "(III)Z"⟩
abbrev t_PF_font : MT := (y_PF_font, b_PF_font, 4, (some .boolean), 2, 43)
abbrev b_PF_open : ByteArray := prog_1_method_3_code
def y_PF_open : MethodName := ⟨R_PF, "open", "(Z)Z"⟩
abbrev t_PF_open : MT := (y_PF_open, b_PF_open, 2, (some .boolean), 2, 34)
abbrev b_PF_character : ByteArray := prog_1_method_4_code
def y_PF_character : MethodName := ⟨R_PF, "character", "(IIIII)Z"⟩
abbrev t_PF_character : MT := (y_PF_character, b_PF_character, 7, (some .boolean), 3, 65)
abbrev b_PF_rule : ByteArray := prog_1_method_5_code
def y_PF_rule : MethodName := ⟨R_PF, "rule", "(IIII)Z"⟩
abbrev t_PF_rule : MT := (y_PF_rule, b_PF_rule, 7, (some .boolean), 3, 65)
abbrev b_PF_space : ByteArray := prog_1_method_6_code
def y_PF_space : MethodName := ⟨R_PF, "space", "(I)Z"⟩
abbrev t_PF_space : MT := (y_PF_space, b_PF_space, 2, (some .boolean), 3, 65)
abbrev b_PF_close : ByteArray := prog_1_method_7_code
def y_PF_close : MethodName := ⟨R_PF, "close", "(I)Z"⟩
abbrev t_PF_close : MT := (y_PF_close, b_PF_close, 3, (some .boolean), 3, 66)
abbrev b_PF_put : ByteArray := prog_1_method_8_code
def y_PF_put : MethodName := ⟨R_PF, "put", "(IIZ)Z"⟩
abbrev t_PF_put : MT := (y_PF_put, b_PF_put, 6, (some .boolean), 3, 65)
abbrev b_PF_ship : ByteArray := prog_1_method_9_code
def y_PF_ship : MethodName := ⟨R_PF, "ship", "(I)I"⟩
abbrev t_PF_ship : MT := (y_PF_ship, b_PF_ship, 3, (some .int), 8, 214)
abbrev b_PF_finish : ByteArray := prog_1_method_10_code
def y_PF_finish : MethodName := ⟨R_PF, "finish", "()I"⟩
abbrev t_PF_finish : MT := (y_PF_finish, b_PF_finish, 4, (some .int), 5, 128)
abbrev b_PF_byteAt : ByteArray := prog_1_method_11_code
def y_PF_byteAt : MethodName := ⟨R_PF, "byteAt", "(I)I"⟩
abbrev t_PF_byteAt : MT := (y_PF_byteAt, b_PF_byteAt, 2, (some .int), 1, 21)
abbrev b_PF_count : ByteArray := prog_1_method_12_code
def y_PF_count : MethodName := ⟨R_PF, "count", "(I)I"⟩
abbrev t_PF_count : MT := (y_PF_count, b_PF_count, 2, (some .int), 0, 0)
abbrev b_PF_size : ByteArray := prog_1_method_13_code
def y_PF_size : MethodName := ⟨R_PF, "size", "(II)I"⟩
abbrev t_PF_size : MT := (y_PF_size, b_PF_size, 4, (some .int), 2, 41)
abbrev b_PF_isSize : ByteArray := prog_1_method_14_code
def y_PF_isSize : MethodName := ⟨R_PF, "isSize", "(J)Z"⟩
abbrev t_PF_isSize : MT := (y_PF_isSize, b_PF_isSize, 2, (some .boolean), 0, 0)
abbrev b_PF_areSizes : ByteArray := prog_1_method_15_code
def y_PF_areSizes : MethodName := ⟨R_PF, "areSizes", "(JJJ)Z"⟩
abbrev t_PF_areSizes : MT := (y_PF_areSizes, b_PF_areSizes, 6, (some .boolean), 1, 21)
abbrev b_PF_isFont : ByteArray := prog_1_method_16_code
def y_PF_isFont : MethodName := ⟨R_PF, "isFont", "(I)Z"⟩
abbrev t_PF_isFont : MT := (y_PF_isFont, b_PF_isFont, 1, (some .boolean), 0, 0)
abbrev b_PF_isRegister : ByteArray := prog_1_method_17_code
def y_PF_isRegister : MethodName := ⟨R_PF, "isRegister", "(I)Z"⟩
abbrev t_PF_isRegister : MT := (y_PF_isRegister, b_PF_isRegister, 1, (some .boolean), 0, 0)
abbrev b_PF_boxOf : ByteArray := prog_1_method_18_code
def y_PF_boxOf : MethodName := ⟨R_PF, "boxOf", "(I)LPageFile$Box;"⟩
abbrev t_PF_boxOf : MT := (y_PF_boxOf, b_PF_boxOf, 2, (some (.object "PageFile$Box")), 1, 20)
abbrev b_PF_dropBox : ByteArray := prog_1_method_19_code
def y_PF_dropBox : MethodName := ⟨R_PF, "dropBox", "(I)V"⟩
abbrev t_PF_dropBox : MT := (y_PF_dropBox, b_PF_dropBox, 3, none, 2, 41)
abbrev b_PF_writePage : ByteArray := prog_1_method_20_code
def y_PF_writePage : MethodName := ⟨R_PF, "writePage", "(LPageFile$Box;)Z"⟩
abbrev t_PF_writePage : MT := (y_PF_writePage, b_PF_writePage, 6, (some .boolean), 7, 189)
abbrev b_PF_writeBeginning : ByteArray := prog_1_method_21_code
def y_PF_writeBeginning : MethodName := ⟨R_PF, "writeBeginning", "()V"⟩
abbrev t_PF_writeBeginning : MT := (y_PF_writeBeginning, b_PF_writeBeginning, 1, none, 4, 108)
abbrev b_PF_writeUnits : ByteArray := prog_1_method_22_code
def y_PF_writeUnits : MethodName := ⟨R_PF, "writeUnits", "()V"⟩
abbrev t_PF_writeUnits : MT := (y_PF_writeUnits, b_PF_writeUnits, 1, none, 3, 88)
abbrev b_Mod_init : ByteArray := prog_11_method_1_code
def y_Mod_init : MethodName := ⟨R_Mod, "<init>", "()V"⟩
abbrev t_Mod_init : MT := (y_Mod_init, b_Mod_init, 1, none, 1, 12)
abbrev b_Mod_thrown : ByteArray := prog_11_method_2_code
def y_Mod_thrown : MethodName := ⟨R_Mod, "thrown", "()I"⟩
abbrev t_Mod_thrown : MT := (y_Mod_thrown, b_Mod_thrown, 1, (some .int), 0, 0)
abbrev b_Mod_isSize : ByteArray := prog_11_method_3_code
def y_Mod_isSize : MethodName := ⟨R_Mod, "isSize", "(I)Z"⟩
abbrev t_Mod_isSize : MT := (y_Mod_isSize, b_Mod_isSize, 1, (some .boolean), 0, 0)
abbrev b_Mod_isSizeLong : ByteArray := prog_11_method_4_code
def y_Mod_isSizeLong : MethodName := ⟨R_Mod, "isSizeLong", "(J)Z"⟩
abbrev t_Mod_isSizeLong : MT := (y_Mod_isSizeLong, b_Mod_isSizeLong, 2, (some .boolean), 0, 0)
abbrev b_Mod_shelved : ByteArray := prog_11_method_5_code
def y_Mod_shelved : MethodName := ⟨R_Mod, "shelved", "()I"⟩
abbrev t_Mod_shelved : MT := (y_Mod_shelved, b_Mod_shelved, 3, (some .int), 0, 0)
abbrev b_Mod_hasRoom : ByteArray := prog_11_method_6_code
def y_Mod_hasRoom : MethodName := ⟨R_Mod, "hasRoom", "(I)Z"⟩
abbrev t_Mod_hasRoom : MT := (y_Mod_hasRoom, b_Mod_hasRoom, 2, (some .boolean), 1, 22)
abbrev b_Mod_start : ByteArray := prog_11_method_7_code
def y_Mod_start : MethodName := ⟨R_Mod, "start", "(I)I"⟩
abbrev t_Mod_start : MT := (y_Mod_start, b_Mod_start, 4, (some .int), 0, 0)
abbrev b_Mod_move : ByteArray := prog_11_method_8_code
def y_Mod_move : MethodName := ⟨R_Mod, "move", "(II)V"⟩
abbrev t_Mod_move : MT := (y_Mod_move, b_Mod_move, 3, none, 0, 0)
abbrev b_Mod_font : ByteArray := prog_11_method_9_code
def y_Mod_font : MethodName := ⟨R_Mod, "font", "(III)Z"⟩
abbrev t_Mod_font : MT := (y_Mod_font, b_Mod_font, 4, (some .boolean), 0, 0)
abbrev b_Mod_open : ByteArray := prog_11_method_10_code
def y_Mod_open : MethodName := ⟨R_Mod, "open", "(Z)Z"⟩
abbrev t_Mod_open : MT := (y_Mod_open, b_Mod_open, 2, (some .boolean), 0, 0)
abbrev b_Mod_isVertical : ByteArray := prog_11_method_11_code
def y_Mod_isVertical : MethodName := ⟨R_Mod, "isVertical", "()Z"⟩
abbrev t_Mod_isVertical : MT := (y_Mod_isVertical, b_Mod_isVertical, 1, (some .boolean), 0, 0)
abbrev b_Mod_add : ByteArray := prog_11_method_12_code
def y_Mod_add : MethodName := ⟨R_Mod, "add", "(ZIIIIII)Z"⟩
abbrev t_Mod_add : MT := (y_Mod_add, b_Mod_add, 8, (some .boolean), 2, 43)
abbrev b_Mod_character : ByteArray := prog_11_method_13_code
def y_Mod_character : MethodName := ⟨R_Mod, "character", "(IIIII)Z"⟩
abbrev t_Mod_character : MT := (y_Mod_character, b_Mod_character, 6, (some .boolean), 3, 70)
abbrev b_Mod_rule : ByteArray := prog_11_method_14_code
def y_Mod_rule : MethodName := ⟨R_Mod, "rule", "(IIII)Z"⟩
abbrev t_Mod_rule : MT := (y_Mod_rule, b_Mod_rule, 6, (some .boolean), 3, 70)
abbrev b_Mod_space : ByteArray := prog_11_method_15_code
def y_Mod_space : MethodName := ⟨R_Mod, "space", "(I)Z"⟩
abbrev t_Mod_space : MT := (y_Mod_space, b_Mod_space, 2, (some .boolean), 3, 70)
abbrev b_Mod_isBox : ByteArray := prog_11_method_16_code
def y_Mod_isBox : MethodName := ⟨R_Mod, "isBox", "(I)Z"⟩
abbrev t_Mod_isBox : MT := (y_Mod_isBox, b_Mod_isBox, 2, (some .boolean), 0, 0)
abbrev b_Mod_nested : ByteArray := prog_11_method_17_code
def y_Mod_nested : MethodName := ⟨R_Mod, "nested", "(II)I"⟩
abbrev t_Mod_nested : MT := (y_Mod_nested, b_Mod_nested, 7, (some .int), 1, 21)
abbrev b_Mod_empty : ByteArray := prog_11_method_18_code
def y_Mod_empty : MethodName := ⟨R_Mod, "empty", "(I)V"⟩
abbrev t_Mod_empty : MT := (y_Mod_empty, b_Mod_empty, 6, none, 1, 23)
abbrev b_Mod_make : ByteArray := prog_11_method_19_code
def y_Mod_make : MethodName := ⟨R_Mod, "make", "(II)V"⟩
abbrev t_Mod_make : MT := (y_Mod_make, b_Mod_make, 5, none, 1, 23)
abbrev b_Mod_close : ByteArray := prog_11_method_20_code
def y_Mod_close : MethodName := ⟨R_Mod, "close", "(I)Z"⟩
abbrev t_Mod_close : MT := (y_Mod_close, b_Mod_close, 14, (some .boolean), 2, 48)
abbrev b_Mod_isFull : ByteArray := prog_11_method_21_code
def y_Mod_isFull : MethodName := ⟨R_Mod, "isFull", "(I)Z"⟩
abbrev t_Mod_isFull : MT := (y_Mod_isFull, b_Mod_isFull, 2, (some .boolean), 0, 0)
abbrev b_Mod_put : ByteArray := prog_11_method_22_code
def y_Mod_put : MethodName := ⟨R_Mod, "put", "(IIZ)Z"⟩
abbrev t_Mod_put : MT := (y_Mod_put, b_Mod_put, 7, (some .boolean), 2, 48)
abbrev b_Mod_write : ByteArray := prog_11_method_23_code
def y_Mod_write : MethodName := ⟨R_Mod, "write", "(II)V"⟩
abbrev t_Mod_write : MT := (y_Mod_write, b_Mod_write, 4, none, 0, 0)
abbrev b_Mod_writeNumbers : ByteArray := prog_11_method_24_code
def y_Mod_writeNumbers : MethodName := ⟨R_Mod, "writeNumbers", "()V"⟩
abbrev t_Mod_writeNumbers : MT := (y_Mod_writeNumbers, b_Mod_writeNumbers, 1, none, 1, 23)
abbrev b_Mod_writeBeginning : ByteArray := prog_11_method_25_code
def y_Mod_writeBeginning : MethodName := ⟨R_Mod, "writeBeginning", "()V"⟩
abbrev t_Mod_writeBeginning : MT := (y_Mod_writeBeginning, b_Mod_writeBeginning, 1, none, 2, 43)
abbrev b_Mod_writeFont : ByteArray := prog_11_method_26_code
def y_Mod_writeFont : MethodName := ⟨R_Mod, "writeFont", "(I)V"⟩
abbrev t_Mod_writeFont : MT := (y_Mod_writeFont, b_Mod_writeFont, 2, none, 1, 23)
abbrev b_Mod_sized : ByteArray := prog_11_method_27_code
def y_Mod_sized : MethodName := ⟨R_Mod, "sized", "(J)V"⟩
abbrev t_Mod_sized : MT := (y_Mod_sized, b_Mod_sized, 3, none, 1, 21)
abbrev b_Mod_enter : ByteArray := prog_11_method_28_code
def y_Mod_enter : MethodName := ⟨R_Mod, "enter", "(II)V"⟩
abbrev t_Mod_enter : MT := (y_Mod_enter, b_Mod_enter, 3, none, 2, 43)
abbrev b_Mod_placeAll : ByteArray := prog_11_method_29_code
def y_Mod_placeAll : MethodName := ⟨R_Mod, "placeAll", "(II)V"⟩
abbrev t_Mod_placeAll : MT := (y_Mod_placeAll, b_Mod_placeAll, 18, none, 3, 65)
abbrev b_Mod_bytes : ByteArray := prog_11_method_30_code
def y_Mod_bytes : MethodName := ⟨R_Mod, "bytes", "(I)I"⟩
abbrev t_Mod_bytes : MT := (y_Mod_bytes, b_Mod_bytes, 1, (some .int), 0, 0)
abbrev b_Mod_go : ByteArray := prog_11_method_31_code
def y_Mod_go : MethodName := ⟨R_Mod, "go", "(II)V"⟩
abbrev t_Mod_go : MT := (y_Mod_go, b_Mod_go, 9, none, 2, 43)
abbrev b_Mod_goTo : ByteArray := prog_11_method_32_code
def y_Mod_goTo : MethodName := ⟨R_Mod, "goTo", "(II)V"⟩
abbrev t_Mod_goTo : MT := (y_Mod_goTo, b_Mod_goTo, 3, none, 3, 71)
abbrev b_Mod_writeCharacter : ByteArray := prog_11_method_33_code
def y_Mod_writeCharacter : MethodName := ⟨R_Mod, "writeCharacter", "(I)V"⟩
abbrev t_Mod_writeCharacter : MT := (y_Mod_writeCharacter, b_Mod_writeCharacter, 3, none, 2, 44)
abbrev b_Mod_leave : ByteArray := prog_11_method_34_code
def y_Mod_leave : MethodName := ⟨R_Mod, "leave", "()V"⟩
abbrev t_Mod_leave : MT := (y_Mod_leave, b_Mod_leave, 2, none, 1, 23)
abbrev b_Mod_writeRule : ByteArray := prog_11_method_35_code
def y_Mod_writeRule : MethodName := ⟨R_Mod, "writeRule", "(III)V"⟩
abbrev t_Mod_writeRule : MT := (y_Mod_writeRule, b_Mod_writeRule, 8, none, 4, 93)
abbrev b_Mod_writeAll : ByteArray := prog_11_method_36_code
def y_Mod_writeAll : MethodName := ⟨R_Mod, "writeAll", "(II)V"⟩
abbrev t_Mod_writeAll : MT := (y_Mod_writeAll, b_Mod_writeAll, 6, none, 5, 120)
abbrev b_Mod_boxOf : ByteArray := prog_11_method_37_code
def y_Mod_boxOf : MethodName := ⟨R_Mod, "boxOf", "(II)I"⟩
abbrev t_Mod_boxOf : MT := (y_Mod_boxOf, b_Mod_boxOf, 5, (some .int), 1, 21)
abbrev b_Mod_ship : ByteArray := prog_11_method_38_code
def y_Mod_ship : MethodName := ⟨R_Mod, "ship", "(I)I"⟩
abbrev t_Mod_ship : MT := (y_Mod_ship, b_Mod_ship, 9, (some .int), 6, 145)
abbrev b_Mod_finish : ByteArray := prog_11_method_39_code
def y_Mod_finish : MethodName := ⟨R_Mod, "finish", "()I"⟩
abbrev t_Mod_finish : MT := (y_Mod_finish, b_Mod_finish, 3, (some .int), 3, 63)
abbrev b_Mod_byteAt : ByteArray := prog_11_method_40_code
def y_Mod_byteAt : MethodName := ⟨R_Mod, "byteAt", "(I)I"⟩
abbrev t_Mod_byteAt : MT := (y_Mod_byteAt, b_Mod_byteAt, 2, (some .int), 0, 0)
abbrev b_Mod_count : ByteArray := prog_11_method_41_code
def y_Mod_count : MethodName := ⟨R_Mod, "count", "(I)I"⟩
abbrev t_Mod_count : MT := (y_Mod_count, b_Mod_count, 2, (some .int), 1, 22)
abbrev b_Mod_size : ByteArray := prog_11_method_42_code
def y_Mod_size : MethodName := ⟨R_Mod, "size", "(II)I"⟩
abbrev t_Mod_size : MT := (y_Mod_size, b_Mod_size, 4, (some .int), 1, 23)
theorem oi_Byt : Cond.methodLink R_Byt 3 objectInit ∈ gw := gw_in 40 (by decide +kernel) (by decide +kernel)
theorem f_Byt_9 : FL R_Byt 9 2 0 (.array (.byte)) false R_Byt := ⟨R_Byt, T_Byt, 2, ty_Byt, rfl, i_Byt, ok_Byt, nm_Byt, by decide, gw_in 41 (by decide +kernel) (by decide +kernel), rfl, rfl, rfl⟩
theorem f_Byt_15 : FL R_Byt 15 2 1 (.int) false R_Byt := ⟨R_Byt, T_Byt, 2, ty_Byt, rfl, i_Byt, ok_Byt, nm_Byt, by decide, gw_in 42 (by decide +kernel) (by decide +kernel), rfl, rfl, rfl⟩
theorem oi_Fon : Cond.methodLink R_Fon 3 objectInit ∈ gw := gw_in 55 (by decide +kernel) (by decide +kernel)
theorem f_Fon_9 : FL R_Fon 9 3 0 (.array (.int)) true R_Fon := ⟨R_Fon, T_Fon, 3, ty_Fon, rfl, i_Fon, ok_Fon, nm_Fon, by decide, gw_in 56 (by decide +kernel) (by decide +kernel), rfl, rfl, rfl⟩
theorem f_Fon_15 : FL R_Fon 15 3 1 (.array (.int)) true R_Fon := ⟨R_Fon, T_Fon, 3, ty_Fon, rfl, i_Fon, ok_Fon, nm_Fon, by decide, gw_in 57 (by decide +kernel) (by decide +kernel), rfl, rfl, rfl⟩
theorem c_Fon_18 : OKSN R_Fon 18 t_PF_isFont 1 := ⟨⟨gw_in 218 (by decide +kernel) (by decide +kernel), gw_in 1 (by decide +kernel) (by decide +kernel), by decide +kernel, by decide +kernel, by decide +kernel⟩, ⟨"PageFile", nw_in 223 (by decide +kernel) (by decide +kernel)⟩, gw_in 217 (by decide +kernel) (by decide +kernel)⟩
theorem f_Fon_22 : FL R_Fon 22 3 2 (.int) false R_Fon := ⟨R_Fon, T_Fon, 3, ty_Fon, rfl, i_Fon, ok_Fon, nm_Fon, by decide, gw_in 58 (by decide +kernel) (by decide +kernel), rfl, rfl, rfl⟩
theorem c_Fon_26 : OKV R_Fon 26 t_Byt_add 2 := ⟨⟨gw_in 550 (by decide +kernel) (by decide +kernel), gw_in 3 (by decide +kernel) (by decide +kernel), by decide +kernel, by decide +kernel, by decide +kernel⟩, gw_in 682 (by decide +kernel) (by decide +kernel), gw_in 548 (by decide +kernel) (by decide +kernel), gw_in 549 (by decide +kernel) (by decide +kernel)⟩
theorem oi_Trk : Cond.methodLink R_Trk 3 objectInit ∈ gw := gw_in 73 (by decide +kernel) (by decide +kernel)
theorem f_Trk_9 : FL R_Trk 9 8 0 (.int) true R_Trk := ⟨R_Trk, T_Trk, 5, ty_Trk, rfl, i_Trk, ok_Trk, nm_Trk, by decide, gw_in 74 (by decide +kernel) (by decide +kernel), rfl, rfl, rfl⟩
theorem f_Trk_15 : FL R_Trk 15 8 1 (.int) false R_Trk := ⟨R_Trk, T_Trk, 5, ty_Trk, rfl, i_Trk, ok_Trk, nm_Trk, by decide, gw_in 75 (by decide +kernel) (by decide +kernel), rfl, rfl, rfl⟩
theorem f_Trk_18 : FL R_Trk 18 8 2 (.int) false R_Trk := ⟨R_Trk, T_Trk, 5, ty_Trk, rfl, i_Trk, ok_Trk, nm_Trk, by decide, gw_in 78 (by decide +kernel) (by decide +kernel), rfl, rfl, rfl⟩
theorem f_Trk_21 : FL R_Trk 21 8 3 (.int) false R_Trk := ⟨R_Trk, T_Trk, 5, ty_Trk, rfl, i_Trk, ok_Trk, nm_Trk, by decide, gw_in 79 (by decide +kernel) (by decide +kernel), rfl, rfl, rfl⟩
theorem f_Trk_24 : FL R_Trk 24 8 4 (.boolean) false R_Trk := ⟨R_Trk, T_Trk, 5, ty_Trk, rfl, i_Trk, ok_Trk, nm_Trk, by decide, gw_in 80 (by decide +kernel) (by decide +kernel), rfl, rfl, rfl⟩
theorem c_Trk_28 : OKSN R_Trk 28 t_PF_isSize 1 := ⟨⟨gw_in 281 (by decide +kernel) (by decide +kernel), gw_in 1 (by decide +kernel) (by decide +kernel), by decide +kernel, by decide +kernel, by decide +kernel⟩, ⟨"PageFile", nw_in 589 (by decide +kernel) (by decide +kernel)⟩, gw_in 280 (by decide +kernel) (by decide +kernel)⟩
theorem c_Trk_32 : OKS R_Trk 32 t_Trk_fewestBytes 1 := ⟨⟨gw_in 592 (by decide +kernel) (by decide +kernel), gw_in 5 (by decide +kernel) (by decide +kernel), by decide +kernel, by decide +kernel, by decide +kernel⟩, gw_in 590 (by decide +kernel) (by decide +kernel), gw_in 591 (by decide +kernel) (by decide +kernel)⟩
theorem c_Trk_36 : OKV R_Trk 36 t_Byt_add 2 := ⟨⟨gw_in 550 (by decide +kernel) (by decide +kernel), gw_in 3 (by decide +kernel) (by decide +kernel), by decide +kernel, by decide +kernel, by decide +kernel⟩, gw_in 599 (by decide +kernel) (by decide +kernel), gw_in 548 (by decide +kernel) (by decide +kernel), gw_in 549 (by decide +kernel) (by decide +kernel)⟩
theorem k_Trk_42 : Cond.constantLong R_Trk 42 (-128) ∈ gw := gw_in 593 (by decide +kernel) (by decide +kernel)
theorem k_Trk_44 : Cond.constantLong R_Trk 44 128 ∈ gw := gw_in 594 (by decide +kernel) (by decide +kernel)
theorem k_Trk_46 : Cond.constantLong R_Trk 46 (-32768) ∈ gw := gw_in 595 (by decide +kernel) (by decide +kernel)
theorem k_Trk_48 : Cond.constantLong R_Trk 48 32768 ∈ gw := gw_in 596 (by decide +kernel) (by decide +kernel)
theorem k_Trk_50 : Cond.constantLong R_Trk 50 (-8388608) ∈ gw := gw_in 597 (by decide +kernel) (by decide +kernel)
theorem k_Trk_52 : Cond.constantLong R_Trk 52 8388608 ∈ gw := gw_in 598 (by decide +kernel) (by decide +kernel)
theorem oi_Itm : Cond.methodLink R_Itm 1 objectInit ∈ gw := gw_in 289 (by decide +kernel) (by decide +kernel)
theorem f_Itm_7 : FL R_Itm 7 5 0 (.int) true R_Itm := ⟨R_Itm, T_Itm, 10, ty_Itm, rfl, i_Itm, ok_Itm, nm_Itm, by decide, gw_in 290 (by decide +kernel) (by decide +kernel), rfl, rfl, rfl⟩
theorem f_Itm_13 : FL R_Itm 13 5 1 (.int) true R_Itm := ⟨R_Itm, T_Itm, 10, ty_Itm, rfl, i_Itm, ok_Itm, nm_Itm, by decide, gw_in 294 (by decide +kernel) (by decide +kernel), rfl, rfl, rfl⟩
theorem f_Itm_16 : FL R_Itm 16 5 2 (.int) true R_Itm := ⟨R_Itm, T_Itm, 10, ty_Itm, rfl, i_Itm, ok_Itm, nm_Itm, by decide, gw_in 298 (by decide +kernel) (by decide +kernel), rfl, rfl, rfl⟩
theorem f_Itm_19 : FL R_Itm 19 5 3 (.int) true R_Itm := ⟨R_Itm, T_Itm, 10, ty_Itm, rfl, i_Itm, ok_Itm, nm_Itm, by decide, gw_in 301 (by decide +kernel) (by decide +kernel), rfl, rfl, rfl⟩
theorem oi_Box : Cond.methodLink R_Box 1 objectInit ∈ gw := gw_in 382 (by decide +kernel) (by decide +kernel)
theorem f_Box_7 : FL R_Box 7 6 0 (.boolean) true R_OpL := ⟨R_OpL, T_OpL, 10, ty_OpL, rfl, i_OpL, ok_OpL, nm_OpL, by decide, gw_in 235 (by decide +kernel) (by decide +kernel), rfl, rfl, rfl⟩
theorem f_Box_13 : FL R_Box 13 1 0 (.boolean) true R_Box := ⟨R_Box, T_Box, 7, ty_Box, rfl, i_Box, ok_Box, nm_Box, by decide, gw_in 383 (by decide +kernel) (by decide +kernel), rfl, rfl, rfl⟩
theorem f_Box_16 : FL R_Box 16 1 1 (.int) true R_Box := ⟨R_Box, T_Box, 7, ty_Box, rfl, i_Box, ok_Box, nm_Box, by decide, gw_in 386 (by decide +kernel) (by decide +kernel), rfl, rfl, rfl⟩
theorem f_Box_20 : FL R_Box 20 1 2 (.int) true R_Box := ⟨R_Box, T_Box, 7, ty_Box, rfl, i_Box, ok_Box, nm_Box, by decide, gw_in 389 (by decide +kernel) (by decide +kernel), rfl, rfl, rfl⟩
theorem f_Box_23 : FL R_Box 23 1 3 (.int) true R_Box := ⟨R_Box, T_Box, 7, ty_Box, rfl, i_Box, ok_Box, nm_Box, by decide, gw_in 393 (by decide +kernel) (by decide +kernel), rfl, rfl, rfl⟩
theorem f_Box_26 : FLN R_Box 26 6 3 (.object "PageFile$Item") false "PageFile" := ⟨R_OpL, T_OpL, 10, ty_OpL, rfl, i_OpL, ok_OpL, nm_OpL, by decide, nw_in 241 (by decide +kernel) (by decide +kernel), rfl, rfl⟩
theorem f_Box_30 : FL R_Box 30 1 4 (.object "PageFile$Item") true R_Box := ⟨R_Box, T_Box, 7, ty_Box, rfl, i_Box, ok_Box, nm_Box, by decide, gw_in 396 (by decide +kernel) (by decide +kernel), rfl, rfl, rfl⟩
theorem f_Box_31 : FLN R_Box 31 6 5 (.int) false "PageFile" := ⟨R_OpL, T_OpL, 10, ty_OpL, rfl, i_OpL, ok_OpL, nm_OpL, by decide, nw_in 244 (by decide +kernel) (by decide +kernel), rfl, rfl⟩
theorem f_Box_34 : FL R_Box 34 1 5 (.int) true R_Box := ⟨R_Box, T_Box, 7, ty_Box, rfl, i_Box, ok_Box, nm_Box, by decide, gw_in 399 (by decide +kernel) (by decide +kernel), rfl, rfl, rfl⟩
theorem f_Box_35 : FLN R_Box 35 6 6 (.int) false "PageFile" := ⟨R_OpL, T_OpL, 10, ty_OpL, rfl, i_OpL, ok_OpL, nm_OpL, by decide, nw_in 246 (by decide +kernel) (by decide +kernel), rfl, rfl⟩
theorem f_Box_38 : FL R_Box 38 1 6 (.int) true R_Box := ⟨R_Box, T_Box, 7, ty_Box, rfl, i_Box, ok_Box, nm_Box, by decide, gw_in 402 (by decide +kernel) (by decide +kernel), rfl, rfl, rfl⟩
theorem oi_OpL : Cond.methodLink R_OpL 3 objectInit ∈ gw := gw_in 233 (by decide +kernel) (by decide +kernel)
theorem f_OpL_9 : FL R_OpL 9 6 0 (.boolean) true R_OpL := ⟨R_OpL, T_OpL, 10, ty_OpL, rfl, i_OpL, ok_OpL, nm_OpL, by decide, gw_in 234 (by decide +kernel) (by decide +kernel), rfl, rfl, rfl⟩
theorem f_OpL_15 : FL R_OpL 15 6 1 (.object "PageFile$OpenList") true R_OpL := ⟨R_OpL, T_OpL, 10, ty_OpL, rfl, i_OpL, ok_OpL, nm_OpL, by decide, gw_in 237 (by decide +kernel) (by decide +kernel), rfl, rfl, rfl⟩
theorem f_OpL_19 : FL R_OpL 19 6 2 (.int) true R_OpL := ⟨R_OpL, T_OpL, 10, ty_OpL, rfl, i_OpL, ok_OpL, nm_OpL, by decide, gw_in 239 (by decide +kernel) (by decide +kernel), rfl, rfl, rfl⟩
theorem f_OpL_23 : FL R_OpL 23 6 4 (.object "PageFile$Item") false R_OpL := ⟨R_OpL, T_OpL, 10, ty_OpL, rfl, i_OpL, ok_OpL, nm_OpL, by decide, gw_in 243 (by decide +kernel) (by decide +kernel), rfl, rfl, rfl⟩
theorem f_OpL_27 : FL R_OpL 27 6 3 (.object "PageFile$Item") false R_OpL := ⟨R_OpL, T_OpL, 10, ty_OpL, rfl, i_OpL, ok_OpL, nm_OpL, by decide, gw_in 242 (by decide +kernel) (by decide +kernel), rfl, rfl, rfl⟩
theorem f_OpL_30 : FL R_OpL 30 5 9 (.object "PageFile$Item") false R_Itm := ⟨R_Itm, T_Itm, 10, ty_Itm, rfl, i_Itm, ok_Itm, nm_Itm, by decide, gw_in 316 (by decide +kernel) (by decide +kernel), rfl, rfl, rfl⟩
theorem f_OpL_35 : FL R_OpL 35 6 5 (.int) false R_OpL := ⟨R_OpL, T_OpL, 10, ty_OpL, rfl, i_OpL, ok_OpL, nm_OpL, by decide, gw_in 245 (by decide +kernel) (by decide +kernel), rfl, rfl, rfl⟩
theorem f_OpL_38 : FL R_OpL 38 5 8 (.object "PageFile$Box") false R_Itm := ⟨R_Itm, T_Itm, 10, ty_Itm, rfl, i_Itm, ok_Itm, nm_Itm, by decide, gw_in 313 (by decide +kernel) (by decide +kernel), rfl, rfl, rfl⟩
theorem f_OpL_42 : FL R_OpL 42 1 5 (.int) true R_Box := ⟨R_Box, T_Box, 7, ty_Box, rfl, i_Box, ok_Box, nm_Box, by decide, gw_in 400 (by decide +kernel) (by decide +kernel), rfl, rfl, rfl⟩
theorem f_OpL_45 : FL R_OpL 45 6 6 (.int) false R_OpL := ⟨R_OpL, T_OpL, 10, ty_OpL, rfl, i_OpL, ok_OpL, nm_OpL, by decide, gw_in 247 (by decide +kernel) (by decide +kernel), rfl, rfl, rfl⟩
theorem f_OpL_48 : FL R_OpL 48 1 6 (.int) true R_Box := ⟨R_Box, T_Box, 7, ty_Box, rfl, i_Box, ok_Box, nm_Box, by decide, gw_in 403 (by decide +kernel) (by decide +kernel), rfl, rfl, rfl⟩
theorem mx_OpL_49 : Cond.methodLink R_OpL 49 Lib.Math.max.name ∈ gw := gw_in 343 (by decide +kernel) (by decide +kernel)
theorem c_OpL_55 : OKV R_OpL 55 t_OpL_measureDown 1 := ⟨⟨gw_in 349 (by decide +kernel) (by decide +kernel), gw_in 8 (by decide +kernel) (by decide +kernel), by decide +kernel, by decide +kernel, by decide +kernel⟩, gw_in 346 (by decide +kernel) (by decide +kernel), gw_in 348 (by decide +kernel) (by decide +kernel), gw_sel 0 (by decide +kernel) (by decide +kernel)⟩
theorem c_OpL_59 : OKV R_OpL 59 t_OpL_measureAcross 1 := ⟨⟨gw_in 356 (by decide +kernel) (by decide +kernel), gw_in 8 (by decide +kernel) (by decide +kernel), by decide +kernel, by decide +kernel, by decide +kernel⟩, gw_in 353 (by decide +kernel) (by decide +kernel), gw_in 355 (by decide +kernel) (by decide +kernel), gw_sel 1 (by decide +kernel) (by decide +kernel)⟩
theorem f_OpL_62 : FL R_OpL 62 6 7 (.long) false R_OpL := ⟨R_OpL, T_OpL, 10, ty_OpL, rfl, i_OpL, ok_OpL, nm_OpL, by decide, gw_in 248 (by decide +kernel) (by decide +kernel), rfl, rfl, rfl⟩
theorem f_OpL_66 : FL R_OpL 66 5 1 (.int) true R_Itm := ⟨R_Itm, T_Itm, 10, ty_Itm, rfl, i_Itm, ok_Itm, nm_Itm, by decide, gw_in 295 (by decide +kernel) (by decide +kernel), rfl, rfl, rfl⟩
theorem f_OpL_68 : FL R_OpL 68 6 8 (.long) false R_OpL := ⟨R_OpL, T_OpL, 10, ty_OpL, rfl, i_OpL, ok_OpL, nm_OpL, by decide, gw_in 249 (by decide +kernel) (by decide +kernel), rfl, rfl, rfl⟩
theorem f_OpL_71 : FL R_OpL 71 5 2 (.int) true R_Itm := ⟨R_Itm, T_Itm, 10, ty_Itm, rfl, i_Itm, ok_Itm, nm_Itm, by decide, gw_in 299 (by decide +kernel) (by decide +kernel), rfl, rfl, rfl⟩
theorem f_OpL_73 : FL R_OpL 73 5 7 (.int) false R_Itm := ⟨R_Itm, T_Itm, 10, ty_Itm, rfl, i_Itm, ok_Itm, nm_Itm, by decide, gw_in 310 (by decide +kernel) (by decide +kernel), rfl, rfl, rfl⟩
theorem mx_OpL_76 : Cond.methodLink R_OpL 76 Lib.MathLoose.max_long.x ∈ gw := gw_in 350 (by decide +kernel) (by decide +kernel)
theorem f_OpL_79 : FL R_OpL 79 6 9 (.long) false R_OpL := ⟨R_OpL, T_OpL, 10, ty_OpL, rfl, i_OpL, ok_OpL, nm_OpL, by decide, gw_in 250 (by decide +kernel) (by decide +kernel), rfl, rfl, rfl⟩
theorem f_OpL_82 : FL R_OpL 82 5 3 (.int) true R_Itm := ⟨R_Itm, T_Itm, 10, ty_Itm, rfl, i_Itm, ok_Itm, nm_Itm, by decide, gw_in 302 (by decide +kernel) (by decide +kernel), rfl, rfl, rfl⟩
theorem f_OpL_84 : FL R_OpL 84 5 0 (.int) true R_Itm := ⟨R_Itm, T_Itm, 10, ty_Itm, rfl, i_Itm, ok_Itm, nm_Itm, by decide, gw_in 292 (by decide +kernel) (by decide +kernel), rfl, rfl, rfl⟩
theorem c_OpL_87 : OKSN R_OpL 87 t_PF_areSizes 3 := ⟨⟨gw_in 278 (by decide +kernel) (by decide +kernel), gw_in 1 (by decide +kernel) (by decide +kernel), by decide +kernel, by decide +kernel, by decide +kernel⟩, ⟨"PageFile", nw_in 376 (by decide +kernel) (by decide +kernel)⟩, gw_in 277 (by decide +kernel) (by decide +kernel)⟩
theorem n_OpL_43 : NW R_OpL 43 1 [.int 0, .int 0, .int 0, .int 0, .null, .int 0, .int 0] 7 := ⟨R_Box, T_Box, ty_Box, rfl, i_Box, ok_Box, gw_in 377 (by decide +kernel) (by decide +kernel), gw_in 378 (by decide +kernel) (by decide +kernel), gw_in 11 (by decide +kernel) (by decide +kernel), by decide +kernel⟩
theorem c_OpL_91 : OKI R_OpL 91 t_Box_init 4 := ⟨⟨gw_in 381 (by decide +kernel) (by decide +kernel), gw_in 11 (by decide +kernel) (by decide +kernel), by decide +kernel, by decide +kernel, by decide +kernel⟩, gw_in 379 (by decide +kernel) (by decide +kernel), gw_in 380 (by decide +kernel) (by decide +kernel), rfl, rfl⟩
theorem oi_Fra : Cond.methodLink R_Fra 3 objectInit ∈ gw := gw_in 97 (by decide +kernel) (by decide +kernel)
theorem n_Fra_9 : NW R_Fra 9 8 [.int 0, .int 0, .int 0, .int 0, .int 0] 5 := ⟨R_Trk, T_Trk, ty_Trk, rfl, i_Trk, ok_Trk, gw_in 98 (by decide +kernel) (by decide +kernel), gw_in 69 (by decide +kernel) (by decide +kernel), gw_in 5 (by decide +kernel) (by decide +kernel), by decide +kernel⟩
theorem c_Fra_11 : OKI R_Fra 11 t_Trk_init 1 := ⟨⟨gw_in 72 (by decide +kernel) (by decide +kernel), gw_in 5 (by decide +kernel) (by decide +kernel), by decide +kernel, by decide +kernel, by decide +kernel⟩, gw_in 99 (by decide +kernel) (by decide +kernel), gw_in 71 (by decide +kernel) (by decide +kernel), rfl, rfl⟩
theorem f_Fra_14 : FL R_Fra 14 4 2 (.object "PageFile$Track") true R_Fra := ⟨R_Fra, T_Fra, 13, ty_Fra, rfl, i_Fra, ok_Fra, nm_Fra, by decide, gw_in 104 (by decide +kernel) (by decide +kernel), rfl, rfl, rfl⟩
theorem f_Fra_20 : FL R_Fra 20 4 3 (.object "PageFile$Track") true R_Fra := ⟨R_Fra, T_Fra, 13, ty_Fra, rfl, i_Fra, ok_Fra, nm_Fra, by decide, gw_in 106 (by decide +kernel) (by decide +kernel), rfl, rfl, rfl⟩
theorem f_Fra_23 : FL R_Fra 23 4 0 (.object "PageFile$Frame") true R_Fra := ⟨R_Fra, T_Fra, 13, ty_Fra, rfl, i_Fra, ok_Fra, nm_Fra, by decide, gw_in 100 (by decide +kernel) (by decide +kernel), rfl, rfl, rfl⟩
theorem f_Fra_27 : FL R_Fra 27 4 1 (.int) true R_Fra := ⟨R_Fra, T_Fra, 13, ty_Fra, rfl, i_Fra, ok_Fra, nm_Fra, by decide, gw_in 102 (by decide +kernel) (by decide +kernel), rfl, rfl, rfl⟩
theorem f_Fra_31 : FL R_Fra 31 4 4 (.object "PageFile$Frame") false R_Fra := ⟨R_Fra, T_Fra, 13, ty_Fra, rfl, i_Fra, ok_Fra, nm_Fra, by decide, gw_in 108 (by decide +kernel) (by decide +kernel), rfl, rfl, rfl⟩
theorem n_Fra_15 : NW R_Fra 15 4 [.null, .int 0, .null, .null, .null, .int 0, .int 0, .int 0, .int 0, .int 0, .int 0, .int 0, .null] 13 := ⟨R_Fra, T_Fra, ty_Fra, rfl, i_Fra, ok_Fra, gw_in 664 (by decide +kernel) (by decide +kernel), gw_in 93 (by decide +kernel) (by decide +kernel), gw_in 6 (by decide +kernel) (by decide +kernel), by decide +kernel⟩
theorem c_Fra_34 : OKI R_Fra 34 t_Fra_init 1 := ⟨⟨gw_in 96 (by decide +kernel) (by decide +kernel), gw_in 6 (by decide +kernel) (by decide +kernel), by decide +kernel, by decide +kernel, by decide +kernel⟩, gw_in 665 (by decide +kernel) (by decide +kernel), gw_in 95 (by decide +kernel) (by decide +kernel), rfl, rfl⟩
theorem c_Fra_37 : OKV R_Fra 37 t_Trk_become 1 := ⟨⟨gw_in 612 (by decide +kernel) (by decide +kernel), gw_in 5 (by decide +kernel) (by decide +kernel), by decide +kernel, by decide +kernel, by decide +kernel⟩, gw_in 609 (by decide +kernel) (by decide +kernel), gw_in 610 (by decide +kernel) (by decide +kernel), gw_in 611 (by decide +kernel) (by decide +kernel)⟩
theorem f_Fra_41 : FL R_Fra 41 1 0 (.boolean) true R_Box := ⟨R_Box, T_Box, 7, ty_Box, rfl, i_Box, ok_Box, nm_Box, by decide, gw_in 384 (by decide +kernel) (by decide +kernel), rfl, rfl, rfl⟩
theorem f_Fra_47 : FL R_Fra 47 4 5 (.boolean) false R_Fra := ⟨R_Fra, T_Fra, 13, ty_Fra, rfl, i_Fra, ok_Fra, nm_Fra, by decide, gw_in 109 (by decide +kernel) (by decide +kernel), rfl, rfl, rfl⟩
theorem f_Fra_48 : FL R_Fra 48 1 1 (.int) true R_Box := ⟨R_Box, T_Box, 7, ty_Box, rfl, i_Box, ok_Box, nm_Box, by decide, gw_in 387 (by decide +kernel) (by decide +kernel), rfl, rfl, rfl⟩
theorem f_Fra_51 : FL R_Fra 51 4 6 (.int) false R_Fra := ⟨R_Fra, T_Fra, 13, ty_Fra, rfl, i_Fra, ok_Fra, nm_Fra, by decide, gw_in 111 (by decide +kernel) (by decide +kernel), rfl, rfl, rfl⟩
theorem f_Fra_52 : FL R_Fra 52 1 2 (.int) true R_Box := ⟨R_Box, T_Box, 7, ty_Box, rfl, i_Box, ok_Box, nm_Box, by decide, gw_in 391 (by decide +kernel) (by decide +kernel), rfl, rfl, rfl⟩
theorem f_Fra_55 : FL R_Fra 55 4 7 (.int) false R_Fra := ⟨R_Fra, T_Fra, 13, ty_Fra, rfl, i_Fra, ok_Fra, nm_Fra, by decide, gw_in 112 (by decide +kernel) (by decide +kernel), rfl, rfl, rfl⟩
theorem f_Fra_56 : FL R_Fra 56 1 3 (.int) true R_Box := ⟨R_Box, T_Box, 7, ty_Box, rfl, i_Box, ok_Box, nm_Box, by decide, gw_in 394 (by decide +kernel) (by decide +kernel), rfl, rfl, rfl⟩
theorem f_Fra_59 : FL R_Fra 59 4 8 (.int) false R_Fra := ⟨R_Fra, T_Fra, 13, ty_Fra, rfl, i_Fra, ok_Fra, nm_Fra, by decide, gw_in 113 (by decide +kernel) (by decide +kernel), rfl, rfl, rfl⟩
theorem f_Fra_60 : FLN R_Fra 60 8 1 (.int) false "PageFile" := ⟨R_Trk, T_Trk, 5, ty_Trk, rfl, i_Trk, ok_Trk, nm_Trk, by decide, nw_in 76 (by decide +kernel) (by decide +kernel), rfl, rfl⟩
theorem f_Fra_63 : FL R_Fra 63 4 9 (.int) false R_Fra := ⟨R_Fra, T_Fra, 13, ty_Fra, rfl, i_Fra, ok_Fra, nm_Fra, by decide, gw_in 114 (by decide +kernel) (by decide +kernel), rfl, rfl, rfl⟩
theorem f_Fra_66 : FL R_Fra 66 4 10 (.int) false R_Fra := ⟨R_Fra, T_Fra, 13, ty_Fra, rfl, i_Fra, ok_Fra, nm_Fra, by decide, gw_in 115 (by decide +kernel) (by decide +kernel), rfl, rfl, rfl⟩
theorem f_Fra_69 : FL R_Fra 69 4 11 (.int) false R_Fra := ⟨R_Fra, T_Fra, 13, ty_Fra, rfl, i_Fra, ok_Fra, nm_Fra, by decide, gw_in 117 (by decide +kernel) (by decide +kernel), rfl, rfl, rfl⟩
theorem f_Fra_72 : FL R_Fra 72 1 4 (.object "PageFile$Item") true R_Box := ⟨R_Box, T_Box, 7, ty_Box, rfl, i_Box, ok_Box, nm_Box, by decide, gw_in 398 (by decide +kernel) (by decide +kernel), rfl, rfl, rfl⟩
theorem f_Fra_76 : FL R_Fra 76 4 12 (.object "PageFile$Item") false R_Fra := ⟨R_Fra, T_Fra, 13, ty_Fra, rfl, i_Fra, ok_Fra, nm_Fra, by decide, gw_in 119 (by decide +kernel) (by decide +kernel), rfl, rfl, rfl⟩
theorem f_Fra_79 : FL R_Fra 79 5 6 (.int) false R_Itm := ⟨R_Itm, T_Itm, 10, ty_Itm, rfl, i_Itm, ok_Itm, nm_Itm, by decide, gw_in 308 (by decide +kernel) (by decide +kernel), rfl, rfl, rfl⟩
theorem f_Fra_84 : FL R_Fra 84 5 1 (.int) true R_Itm := ⟨R_Itm, T_Itm, 10, ty_Itm, rfl, i_Itm, ok_Itm, nm_Itm, by decide, gw_in 296 (by decide +kernel) (by decide +kernel), rfl, rfl, rfl⟩
theorem f_Fra_85 : FL R_Fra 85 5 2 (.int) true R_Itm := ⟨R_Itm, T_Itm, 10, ty_Itm, rfl, i_Itm, ok_Itm, nm_Itm, by decide, gw_in 300 (by decide +kernel) (by decide +kernel), rfl, rfl, rfl⟩
theorem f_Fra_86 : FL R_Fra 86 5 3 (.int) true R_Itm := ⟨R_Itm, T_Itm, 10, ty_Itm, rfl, i_Itm, ok_Itm, nm_Itm, by decide, gw_in 303 (by decide +kernel) (by decide +kernel), rfl, rfl, rfl⟩
theorem c_Fra_87 : OKV R_Fra 87 t_Fra_heightOf 1 := ⟨⟨gw_in 638 (by decide +kernel) (by decide +kernel), gw_in 6 (by decide +kernel) (by decide +kernel), by decide +kernel, by decide +kernel, by decide +kernel⟩, gw_in 635 (by decide +kernel) (by decide +kernel), gw_in 636 (by decide +kernel) (by decide +kernel), gw_in 637 (by decide +kernel) (by decide +kernel)⟩
theorem c_Fra_91 : OKV R_Fra 91 t_Fra_depthOf 1 := ⟨⟨gw_in 642 (by decide +kernel) (by decide +kernel), gw_in 6 (by decide +kernel) (by decide +kernel), by decide +kernel, by decide +kernel, by decide +kernel⟩, gw_in 639 (by decide +kernel) (by decide +kernel), gw_in 640 (by decide +kernel) (by decide +kernel), gw_in 641 (by decide +kernel) (by decide +kernel)⟩
theorem f_Fra_94 : FL R_Fra 94 5 7 (.int) false R_Itm := ⟨R_Itm, T_Itm, 10, ty_Itm, rfl, i_Itm, ok_Itm, nm_Itm, by decide, gw_in 311 (by decide +kernel) (by decide +kernel), rfl, rfl, rfl⟩
theorem f_Fra_97 : FL R_Fra 97 5 0 (.int) true R_Itm := ⟨R_Itm, T_Itm, 10, ty_Itm, rfl, i_Itm, ok_Itm, nm_Itm, by decide, gw_in 293 (by decide +kernel) (by decide +kernel), rfl, rfl, rfl⟩
theorem c_Fra_100 : OKV R_Fra 100 t_Fra_extentOf 1 := ⟨⟨gw_in 634 (by decide +kernel) (by decide +kernel), gw_in 6 (by decide +kernel) (by decide +kernel), by decide +kernel, by decide +kernel, by decide +kernel⟩, gw_in 631 (by decide +kernel) (by decide +kernel), gw_in 632 (by decide +kernel) (by decide +kernel), gw_in 633 (by decide +kernel) (by decide +kernel)⟩
theorem oi_PgW : Cond.methodLink R_PgW 3 objectInit ∈ gw := gw_in 34 (by decide +kernel) (by decide +kernel)
theorem n_PgW_9 : NW R_PgW 9 2 [.null, .int 0] 2 := ⟨R_Byt, T_Byt, ty_Byt, rfl, i_Byt, ok_Byt, gw_in 35 (by decide +kernel) (by decide +kernel), gw_in 36 (by decide +kernel) (by decide +kernel), gw_in 3 (by decide +kernel) (by decide +kernel), by decide +kernel⟩
theorem c_PgW_11 : OKIN R_PgW 11 t_Byt_init 0 := ⟨⟨gw_in 39 (by decide +kernel) (by decide +kernel), gw_in 3 (by decide +kernel) (by decide +kernel), by decide +kernel, by decide +kernel, by decide +kernel⟩, ⟨"PageFile", nw_in 37 (by decide +kernel) (by decide +kernel)⟩, gw_in 38 (by decide +kernel) (by decide +kernel), rfl, rfl⟩
theorem f_PgW_12 : FL R_PgW 12 7 0 (.object "PageFile$Bytes") true R_PgW := ⟨R_PgW, T_PgW, 8, ty_PgW, rfl, i_PgW, ok_PgW, nm_PgW, by decide, gw_in 147 (by decide +kernel) (by decide +kernel), rfl, rfl, rfl⟩
theorem n_PgW_18 : NW R_PgW 18 3 [.null, .null, .int 0] 3 := ⟨R_Fon, T_Fon, ty_Fon, rfl, i_Fon, ok_Fon, gw_in 50 (by decide +kernel) (by decide +kernel), gw_in 51 (by decide +kernel) (by decide +kernel), gw_in 4 (by decide +kernel) (by decide +kernel), by decide +kernel⟩
theorem c_PgW_20 : OKIN R_PgW 20 t_Fon_init 0 := ⟨⟨gw_in 54 (by decide +kernel) (by decide +kernel), gw_in 4 (by decide +kernel) (by decide +kernel), by decide +kernel, by decide +kernel, by decide +kernel⟩, ⟨"PageFile", nw_in 52 (by decide +kernel) (by decide +kernel)⟩, gw_in 53 (by decide +kernel) (by decide +kernel), rfl, rfl⟩
theorem f_PgW_21 : FL R_PgW 21 7 1 (.object "PageFile$Fonts") true R_PgW := ⟨R_PgW, T_PgW, 8, ty_PgW, rfl, i_PgW, ok_PgW, nm_PgW, by decide, gw_in 149 (by decide +kernel) (by decide +kernel), rfl, rfl, rfl⟩
theorem n_PgW_25 : NW R_PgW 25 8 [.int 0, .int 0, .int 0, .int 0, .int 0] 5 := ⟨R_Trk, T_Trk, ty_Trk, rfl, i_Trk, ok_Trk, gw_in 68 (by decide +kernel) (by decide +kernel), gw_in 69 (by decide +kernel) (by decide +kernel), gw_in 5 (by decide +kernel) (by decide +kernel), by decide +kernel⟩
theorem c_PgW_27 : OKI R_PgW 27 t_Trk_init 1 := ⟨⟨gw_in 72 (by decide +kernel) (by decide +kernel), gw_in 5 (by decide +kernel) (by decide +kernel), by decide +kernel, by decide +kernel, by decide +kernel⟩, gw_in 70 (by decide +kernel) (by decide +kernel), gw_in 71 (by decide +kernel) (by decide +kernel), rfl, rfl⟩
theorem f_PgW_30 : FL R_PgW 30 7 2 (.object "PageFile$Track") true R_PgW := ⟨R_PgW, T_PgW, 8, ty_PgW, rfl, i_PgW, ok_PgW, nm_PgW, by decide, gw_in 151 (by decide +kernel) (by decide +kernel), rfl, rfl, rfl⟩
theorem f_PgW_34 : FL R_PgW 34 7 3 (.object "PageFile$Track") true R_PgW := ⟨R_PgW, T_PgW, 8, ty_PgW, rfl, i_PgW, ok_PgW, nm_PgW, by decide, gw_in 152 (by decide +kernel) (by decide +kernel), rfl, rfl, rfl⟩
theorem n_PgW_37 : NW R_PgW 37 4 [.null, .int 0, .null, .null, .null, .int 0, .int 0, .int 0, .int 0, .int 0, .int 0, .int 0, .null] 13 := ⟨R_Fra, T_Fra, ty_Fra, rfl, i_Fra, ok_Fra, gw_in 92 (by decide +kernel) (by decide +kernel), gw_in 93 (by decide +kernel) (by decide +kernel), gw_in 6 (by decide +kernel) (by decide +kernel), by decide +kernel⟩
theorem c_PgW_39 : OKI R_PgW 39 t_Fra_init 1 := ⟨⟨gw_in 96 (by decide +kernel) (by decide +kernel), gw_in 6 (by decide +kernel) (by decide +kernel), by decide +kernel, by decide +kernel, by decide +kernel⟩, gw_in 94 (by decide +kernel) (by decide +kernel), gw_in 95 (by decide +kernel) (by decide +kernel), rfl, rfl⟩
theorem f_PgW_42 : FL R_PgW 42 7 4 (.object "PageFile$Frame") true R_PgW := ⟨R_PgW, T_PgW, 8, ty_PgW, rfl, i_PgW, ok_PgW, nm_PgW, by decide, gw_in 153 (by decide +kernel) (by decide +kernel), rfl, rfl, rfl⟩
theorem c_PgW_46 : OKV R_PgW 46 t_Trk_restart 0 := ⟨⟨gw_in 580 (by decide +kernel) (by decide +kernel), gw_in 5 (by decide +kernel) (by decide +kernel), by decide +kernel, by decide +kernel, by decide +kernel⟩, gw_in 577 (by decide +kernel) (by decide +kernel), gw_in 578 (by decide +kernel) (by decide +kernel), gw_in 579 (by decide +kernel) (by decide +kernel)⟩
theorem f_PgW_49 : FL R_PgW 49 7 5 (.int) false R_PgW := ⟨R_PgW, T_PgW, 8, ty_PgW, rfl, i_PgW, ok_PgW, nm_PgW, by decide, gw_in 154 (by decide +kernel) (by decide +kernel), rfl, rfl, rfl⟩
theorem f_PgW_53 : FL R_PgW 53 7 6 (.int) false R_PgW := ⟨R_PgW, T_PgW, 8, ty_PgW, rfl, i_PgW, ok_PgW, nm_PgW, by decide, gw_in 155 (by decide +kernel) (by decide +kernel), rfl, rfl, rfl⟩
theorem f_PgW_56 : FL R_PgW 56 7 7 (.boolean) false R_PgW := ⟨R_PgW, T_PgW, 8, ty_PgW, rfl, i_PgW, ok_PgW, nm_PgW, by decide, gw_in 157 (by decide +kernel) (by decide +kernel), rfl, rfl, rfl⟩
theorem f_PgW_60 : FL R_PgW 60 1 4 (.object "PageFile$Item") true R_Box := ⟨R_Box, T_Box, 7, ty_Box, rfl, i_Box, ok_Box, nm_Box, by decide, gw_in 397 (by decide +kernel) (by decide +kernel), rfl, rfl, rfl⟩
theorem f_PgW_66 : FL R_PgW 66 1 2 (.int) true R_Box := ⟨R_Box, T_Box, 7, ty_Box, rfl, i_Box, ok_Box, nm_Box, by decide, gw_in 390 (by decide +kernel) (by decide +kernel), rfl, rfl, rfl⟩
theorem c_PgW_69 : OKV R_PgW 69 t_PgW_moveTo 2 := ⟨⟨gw_in 584 (by decide +kernel) (by decide +kernel), gw_in 2 (by decide +kernel) (by decide +kernel), by decide +kernel, by decide +kernel, by decide +kernel⟩, gw_in 581 (by decide +kernel) (by decide +kernel), gw_in 583 (by decide +kernel) (by decide +kernel), gw_sel 8 (by decide +kernel) (by decide +kernel)⟩
theorem c_PgW_73 : OKV R_PgW 73 t_PgW_enter 2 := ⟨⟨gw_in 603 (by decide +kernel) (by decide +kernel), gw_in 2 (by decide +kernel) (by decide +kernel), by decide +kernel, by decide +kernel, by decide +kernel⟩, gw_in 600 (by decide +kernel) (by decide +kernel), gw_in 602 (by decide +kernel) (by decide +kernel), gw_sel 9 (by decide +kernel) (by decide +kernel)⟩
theorem f_PgW_77 : FLN R_PgW 77 4 12 (.object "PageFile$Item") false "PageFile" := ⟨R_Fra, T_Fra, 13, ty_Fra, rfl, i_Fra, ok_Fra, nm_Fra, by decide, nw_in 118 (by decide +kernel) (by decide +kernel), rfl, rfl⟩
theorem c_PgW_80 : OKV R_PgW 80 t_PgW_leave 1 := ⟨⟨gw_in 617 (by decide +kernel) (by decide +kernel), gw_in 2 (by decide +kernel) (by decide +kernel), by decide +kernel, by decide +kernel, by decide +kernel⟩, gw_in 614 (by decide +kernel) (by decide +kernel), gw_in 616 (by decide +kernel) (by decide +kernel), gw_sel 10 (by decide +kernel) (by decide +kernel)⟩
theorem f_PgW_84 : FL R_PgW 84 5 9 (.object "PageFile$Item") false R_Itm := ⟨R_Itm, T_Itm, 10, ty_Itm, rfl, i_Itm, ok_Itm, nm_Itm, by decide, gw_in 317 (by decide +kernel) (by decide +kernel), rfl, rfl, rfl⟩
theorem c_PgW_87 : OKV R_PgW 87 t_PgW_writeItem 2 := ⟨⟨gw_in 622 (by decide +kernel) (by decide +kernel), gw_in 2 (by decide +kernel) (by decide +kernel), by decide +kernel, by decide +kernel, by decide +kernel⟩, gw_in 619 (by decide +kernel) (by decide +kernel), gw_in 621 (by decide +kernel) (by decide +kernel), gw_sel 11 (by decide +kernel) (by decide +kernel)⟩
theorem c_PgW_91 : OKV R_PgW 91 t_Fra_rightOf 1 := ⟨⟨gw_in 626 (by decide +kernel) (by decide +kernel), gw_in 6 (by decide +kernel) (by decide +kernel), by decide +kernel, by decide +kernel, by decide +kernel⟩, gw_in 623 (by decide +kernel) (by decide +kernel), gw_in 624 (by decide +kernel) (by decide +kernel), gw_in 625 (by decide +kernel) (by decide +kernel)⟩
theorem c_PgW_95 : OKV R_PgW 95 t_Fra_downOf 1 := ⟨⟨gw_in 630 (by decide +kernel) (by decide +kernel), gw_in 6 (by decide +kernel) (by decide +kernel), by decide +kernel, by decide +kernel, by decide +kernel⟩, gw_in 627 (by decide +kernel) (by decide +kernel), gw_in 628 (by decide +kernel) (by decide +kernel), gw_in 629 (by decide +kernel) (by decide +kernel)⟩
theorem c_PgW_98 : OKV R_PgW 98 t_Fra_behind 1 := ⟨⟨gw_in 646 (by decide +kernel) (by decide +kernel), gw_in 6 (by decide +kernel) (by decide +kernel), by decide +kernel, by decide +kernel, by decide +kernel⟩, gw_in 643 (by decide +kernel) (by decide +kernel), gw_in 644 (by decide +kernel) (by decide +kernel), gw_in 645 (by decide +kernel) (by decide +kernel)⟩
theorem c_PgW_101 : OKSN R_PgW 101 t_PF_areSizes 3 := ⟨⟨gw_in 278 (by decide +kernel) (by decide +kernel), gw_in 1 (by decide +kernel) (by decide +kernel), by decide +kernel, by decide +kernel, by decide +kernel⟩, ⟨"PageFile", nw_in 647 (by decide +kernel) (by decide +kernel)⟩, gw_in 277 (by decide +kernel) (by decide +kernel)⟩
theorem c_PgW_105 : OKS R_PgW 105 t_PgW_canStand 3 := ⟨⟨gw_in 650 (by decide +kernel) (by decide +kernel), gw_in 2 (by decide +kernel) (by decide +kernel), by decide +kernel, by decide +kernel, by decide +kernel⟩, gw_in 648 (by decide +kernel) (by decide +kernel), gw_in 649 (by decide +kernel) (by decide +kernel)⟩
theorem f_PgW_109 : FLN R_PgW 109 4 11 (.int) false "PageFile" := ⟨R_Fra, T_Fra, 13, ty_Fra, rfl, i_Fra, ok_Fra, nm_Fra, by decide, nw_in 116 (by decide +kernel) (by decide +kernel), rfl, rfl⟩
theorem c_PgW_112 : OKS R_PgW 112 t_PgW_isWritten 2 := ⟨⟨gw_in 655 (by decide +kernel) (by decide +kernel), gw_in 2 (by decide +kernel) (by decide +kernel), by decide +kernel, by decide +kernel, by decide +kernel⟩, gw_in 653 (by decide +kernel) (by decide +kernel), gw_in 654 (by decide +kernel) (by decide +kernel)⟩
theorem f_PgW_116 : FL R_PgW 116 5 8 (.object "PageFile$Box") false R_Itm := ⟨R_Itm, T_Itm, 10, ty_Itm, rfl, i_Itm, ok_Itm, nm_Itm, by decide, gw_in 314 (by decide +kernel) (by decide +kernel), rfl, rfl, rfl⟩
theorem c_PgW_120 : OKV R_PgW 120 t_Fra_inside 0 := ⟨⟨gw_in 663 (by decide +kernel) (by decide +kernel), gw_in 6 (by decide +kernel) (by decide +kernel), by decide +kernel, by decide +kernel, by decide +kernel⟩, gw_in 660 (by decide +kernel) (by decide +kernel), gw_in 661 (by decide +kernel) (by decide +kernel), gw_in 662 (by decide +kernel) (by decide +kernel)⟩
theorem f_PgW_124 : FL R_PgW 124 5 0 (.int) true R_Itm := ⟨R_Itm, T_Itm, 10, ty_Itm, rfl, i_Itm, ok_Itm, nm_Itm, by decide, gw_in 291 (by decide +kernel) (by decide +kernel), rfl, rfl, rfl⟩
theorem c_PgW_127 : OKV R_PgW 127 t_PgW_writeRule 2 := ⟨⟨gw_in 669 (by decide +kernel) (by decide +kernel), gw_in 2 (by decide +kernel) (by decide +kernel), by decide +kernel, by decide +kernel, by decide +kernel⟩, gw_in 666 (by decide +kernel) (by decide +kernel), gw_in 668 (by decide +kernel) (by decide +kernel), gw_sel 12 (by decide +kernel) (by decide +kernel)⟩
theorem c_PgW_131 : OKV R_PgW 131 t_PgW_writeCharacter 1 := ⟨⟨gw_in 673 (by decide +kernel) (by decide +kernel), gw_in 2 (by decide +kernel) (by decide +kernel), by decide +kernel, by decide +kernel, by decide +kernel⟩, gw_in 670 (by decide +kernel) (by decide +kernel), gw_in 672 (by decide +kernel) (by decide +kernel), gw_sel 13 (by decide +kernel) (by decide +kernel)⟩
theorem c_PgW_135 : OKV R_PgW 135 t_Fra_extentOf 1 := ⟨⟨gw_in 634 (by decide +kernel) (by decide +kernel), gw_in 6 (by decide +kernel) (by decide +kernel), by decide +kernel, by decide +kernel, by decide +kernel⟩, gw_in 651 (by decide +kernel) (by decide +kernel), gw_in 632 (by decide +kernel) (by decide +kernel), gw_in 633 (by decide +kernel) (by decide +kernel)⟩
theorem c_PgW_138 : OKSN R_PgW 138 t_PF_isSize 1 := ⟨⟨gw_in 281 (by decide +kernel) (by decide +kernel), gw_in 1 (by decide +kernel) (by decide +kernel), by decide +kernel, by decide +kernel, by decide +kernel⟩, ⟨"PageFile", nw_in 652 (by decide +kernel) (by decide +kernel)⟩, gw_in 280 (by decide +kernel) (by decide +kernel)⟩
theorem f_PgW_142 : FL R_PgW 142 1 0 (.boolean) true R_Box := ⟨R_Box, T_Box, 7, ty_Box, rfl, i_Box, ok_Box, nm_Box, by decide, gw_in 385 (by decide +kernel) (by decide +kernel), rfl, rfl, rfl⟩
theorem c_PgW_145 : OKV R_PgW 145 t_Fra_widthOf 1 := ⟨⟨gw_in 659 (by decide +kernel) (by decide +kernel), gw_in 6 (by decide +kernel) (by decide +kernel), by decide +kernel, by decide +kernel, by decide +kernel⟩, gw_in 656 (by decide +kernel) (by decide +kernel), gw_in 657 (by decide +kernel) (by decide +kernel), gw_in 658 (by decide +kernel) (by decide +kernel)⟩
theorem c_PgW_149 : OKV R_PgW 149 t_Trk_goTo 2 := ⟨⟨gw_in 588 (by decide +kernel) (by decide +kernel), gw_in 5 (by decide +kernel) (by decide +kernel), by decide +kernel, by decide +kernel, by decide +kernel⟩, gw_in 585 (by decide +kernel) (by decide +kernel), gw_in 586 (by decide +kernel) (by decide +kernel), gw_in 587 (by decide +kernel) (by decide +kernel)⟩
theorem f_PgW_153 : FL R_PgW 153 5 4 (.int) false R_Itm := ⟨R_Itm, T_Itm, 10, ty_Itm, rfl, i_Itm, ok_Itm, nm_Itm, by decide, gw_in 305 (by decide +kernel) (by decide +kernel), rfl, rfl, rfl⟩
theorem c_PgW_156 : OKV R_PgW 156 t_Fon_isUsed 1 := ⟨⟨gw_in 677 (by decide +kernel) (by decide +kernel), gw_in 4 (by decide +kernel) (by decide +kernel), by decide +kernel, by decide +kernel, by decide +kernel⟩, gw_in 674 (by decide +kernel) (by decide +kernel), gw_in 675 (by decide +kernel) (by decide +kernel), gw_in 676 (by decide +kernel) (by decide +kernel)⟩
theorem c_PgW_160 : OKV R_PgW 160 t_Fon_write 2 := ⟨⟨gw_in 681 (by decide +kernel) (by decide +kernel), gw_in 4 (by decide +kernel) (by decide +kernel), by decide +kernel, by decide +kernel, by decide +kernel⟩, gw_in 678 (by decide +kernel) (by decide +kernel), gw_in 679 (by decide +kernel) (by decide +kernel), gw_in 680 (by decide +kernel) (by decide +kernel)⟩
theorem c_PgW_164 : OKV R_PgW 164 t_Byt_add 2 := ⟨⟨gw_in 550 (by decide +kernel) (by decide +kernel), gw_in 3 (by decide +kernel) (by decide +kernel), by decide +kernel, by decide +kernel, by decide +kernel⟩, gw_in 604 (by decide +kernel) (by decide +kernel), gw_in 548 (by decide +kernel) (by decide +kernel), gw_in 549 (by decide +kernel) (by decide +kernel)⟩
theorem f_PgW_167 : FL R_PgW 167 5 5 (.int) false R_Itm := ⟨R_Itm, T_Itm, 10, ty_Itm, rfl, i_Itm, ok_Itm, nm_Itm, by decide, gw_in 307 (by decide +kernel) (by decide +kernel), rfl, rfl, rfl⟩
theorem f_PgW_170 : FLN R_PgW 170 8 1 (.int) false "PageFile" := ⟨R_Trk, T_Trk, 5, ty_Trk, rfl, i_Trk, ok_Trk, nm_Trk, by decide, nw_in 77 (by decide +kernel) (by decide +kernel), rfl, rfl⟩
theorem f_PgW_173 : FL R_PgW 173 5 1 (.int) true R_Itm := ⟨R_Itm, T_Itm, 10, ty_Itm, rfl, i_Itm, ok_Itm, nm_Itm, by decide, gw_in 297 (by decide +kernel) (by decide +kernel), rfl, rfl, rfl⟩
theorem f_PgW_176 : FLN R_PgW 176 4 5 (.boolean) false "PageFile" := ⟨R_Fra, T_Fra, 13, ty_Fra, rfl, i_Fra, ok_Fra, nm_Fra, by decide, nw_in 110 (by decide +kernel) (by decide +kernel), rfl, rfl⟩
theorem c_PgW_177 : OKV R_PgW 177 t_Fra_begin 3 := ⟨⟨gw_in 608 (by decide +kernel) (by decide +kernel), gw_in 6 (by decide +kernel) (by decide +kernel), by decide +kernel, by decide +kernel, by decide +kernel⟩, gw_in 605 (by decide +kernel) (by decide +kernel), gw_in 606 (by decide +kernel) (by decide +kernel), gw_in 607 (by decide +kernel) (by decide +kernel)⟩
theorem f_PgW_181 : FL R_PgW 181 4 1 (.int) true R_Fra := ⟨R_Fra, T_Fra, 13, ty_Fra, rfl, i_Fra, ok_Fra, nm_Fra, by decide, gw_in 103 (by decide +kernel) (by decide +kernel), rfl, rfl, rfl⟩
theorem mx_PgW_184 : Cond.methodLink R_PgW 184 Lib.Math.max.name ∈ gw := gw_in 613 (by decide +kernel) (by decide +kernel)
theorem f_PgW_190 : FLN R_PgW 190 4 2 (.object "PageFile$Track") true "PageFile" := ⟨R_Fra, T_Fra, 13, ty_Fra, rfl, i_Fra, ok_Fra, nm_Fra, by decide, nw_in 105 (by decide +kernel) (by decide +kernel), rfl, rfl⟩
theorem c_PgW_193 : OKV R_PgW 193 t_Trk_become 1 := ⟨⟨gw_in 612 (by decide +kernel) (by decide +kernel), gw_in 5 (by decide +kernel) (by decide +kernel), by decide +kernel, by decide +kernel, by decide +kernel⟩, gw_in 618 (by decide +kernel) (by decide +kernel), gw_in 610 (by decide +kernel) (by decide +kernel), gw_in 611 (by decide +kernel) (by decide +kernel)⟩
theorem f_PgW_197 : FLN R_PgW 197 4 3 (.object "PageFile$Track") true "PageFile" := ⟨R_Fra, T_Fra, 13, ty_Fra, rfl, i_Fra, ok_Fra, nm_Fra, by decide, nw_in 107 (by decide +kernel) (by decide +kernel), rfl, rfl⟩
theorem f_PgW_200 : FL R_PgW 200 4 0 (.object "PageFile$Frame") true R_Fra := ⟨R_Fra, T_Fra, 13, ty_Fra, rfl, i_Fra, ok_Fra, nm_Fra, by decide, gw_in 101 (by decide +kernel) (by decide +kernel), rfl, rfl, rfl⟩
theorem oi_PF : Cond.methodLink R_PF 3 objectInit ∈ gw := gw_in 24 (by decide +kernel) (by decide +kernel)
theorem a_PF_9 : Cond.classLink R_PF 9 R_Box ∈ gw := gw_in 27 (by decide +kernel) (by decide +kernel)
theorem f_PF_11 : FL R_PF 11 0 0 (.array (.object "PageFile$Box")) true R_PF := ⟨R_PF, T_PF, 12, ty_PF, rfl, i_PF, ok_PF, nm_PF, by decide, gw_in 175 (by decide +kernel) (by decide +kernel), rfl, rfl, rfl⟩
theorem n_PF_15 : NW R_PF 15 7 [.null, .null, .null, .null, .null, .int 0, .int 0, .int 0] 8 := ⟨R_PgW, T_PgW, ty_PgW, rfl, i_PgW, ok_PgW, gw_in 29 (by decide +kernel) (by decide +kernel), gw_in 30 (by decide +kernel) (by decide +kernel), gw_in 2 (by decide +kernel) (by decide +kernel), by decide +kernel⟩
theorem c_PF_17 : OKIN R_PF 17 t_PgW_init 0 := ⟨⟨gw_in 33 (by decide +kernel) (by decide +kernel), gw_in 2 (by decide +kernel) (by decide +kernel), by decide +kernel, by decide +kernel, by decide +kernel⟩, ⟨"PageFile", nw_in 31 (by decide +kernel) (by decide +kernel)⟩, gw_in 32 (by decide +kernel) (by decide +kernel), rfl, rfl⟩
theorem f_PF_18 : FL R_PF 18 0 1 (.object "PageFile$PageWriter") true R_PF := ⟨R_PF, T_PF, 12, ty_PF, rfl, i_PF, ok_PF, nm_PF, by decide, gw_in 176 (by decide +kernel) (by decide +kernel), rfl, rfl, rfl⟩
theorem f_PF_22 : FLN R_PF 22 7 0 (.object "PageFile$Bytes") true "PageFile" := ⟨R_PgW, T_PgW, 8, ty_PgW, rfl, i_PgW, ok_PgW, nm_PgW, by decide, nw_in 148 (by decide +kernel) (by decide +kernel), rfl, rfl⟩
theorem f_PF_26 : FL R_PF 26 0 2 (.object "PageFile$Bytes") true R_PF := ⟨R_PF, T_PF, 12, ty_PF, rfl, i_PF, ok_PF, nm_PF, by decide, gw_in 177 (by decide +kernel) (by decide +kernel), rfl, rfl, rfl⟩
theorem f_PF_27 : FLN R_PF 27 7 1 (.object "PageFile$Fonts") true "PageFile" := ⟨R_PgW, T_PgW, 8, ty_PgW, rfl, i_PgW, ok_PgW, nm_PgW, by decide, nw_in 150 (by decide +kernel) (by decide +kernel), rfl, rfl⟩
theorem f_PF_31 : FL R_PF 31 0 3 (.object "PageFile$Fonts") true R_PF := ⟨R_PF, T_PF, 12, ty_PF, rfl, i_PF, ok_PF, nm_PF, by decide, gw_in 178 (by decide +kernel) (by decide +kernel), rfl, rfl, rfl⟩
theorem f_PF_32 : FL R_PF 32 0 7 (.int) false R_PF := ⟨R_PF, T_PF, 12, ty_PF, rfl, i_PF, ok_PF, nm_PF, by decide, gw_in 182 (by decide +kernel) (by decide +kernel), rfl, rfl, rfl⟩
theorem c_PF_36 : OKS R_PF 36 t_PF_isFont 1 := ⟨⟨gw_in 218 (by decide +kernel) (by decide +kernel), gw_in 1 (by decide +kernel) (by decide +kernel), by decide +kernel, by decide +kernel, by decide +kernel⟩, gw_in 216 (by decide +kernel) (by decide +kernel), gw_in 217 (by decide +kernel) (by decide +kernel)⟩
theorem c_PF_40 : OKV R_PF 40 t_Fon_keep 3 := ⟨⟨gw_in 222 (by decide +kernel) (by decide +kernel), gw_in 4 (by decide +kernel) (by decide +kernel), by decide +kernel, by decide +kernel, by decide +kernel⟩, gw_in 219 (by decide +kernel) (by decide +kernel), gw_in 220 (by decide +kernel) (by decide +kernel), gw_in 221 (by decide +kernel) (by decide +kernel)⟩
theorem f_PF_46 : FL R_PF 46 0 4 (.object "PageFile$OpenList") false R_PF := ⟨R_PF, T_PF, 12, ty_PF, rfl, i_PF, ok_PF, nm_PF, by decide, gw_in 179 (by decide +kernel) (by decide +kernel), rfl, rfl, rfl⟩
theorem f_PF_50 : FL R_PF 50 6 2 (.int) true R_OpL := ⟨R_OpL, T_OpL, 10, ty_OpL, rfl, i_OpL, ok_OpL, nm_OpL, by decide, gw_in 240 (by decide +kernel) (by decide +kernel), rfl, rfl, rfl⟩
theorem n_PF_51 : NW R_PF 51 6 [.int 0, .null, .int 0, .null, .null, .int 0, .int 0, .long 0, .long 0, .long 0] 10 := ⟨R_OpL, T_OpL, ty_OpL, rfl, i_OpL, ok_OpL, gw_in 228 (by decide +kernel) (by decide +kernel), gw_in 229 (by decide +kernel) (by decide +kernel), gw_in 8 (by decide +kernel) (by decide +kernel), by decide +kernel⟩
theorem c_PF_55 : OKI R_PF 55 t_OpL_init 2 := ⟨⟨gw_in 232 (by decide +kernel) (by decide +kernel), gw_in 8 (by decide +kernel) (by decide +kernel), by decide +kernel, by decide +kernel, by decide +kernel⟩, gw_in 230 (by decide +kernel) (by decide +kernel), gw_in 231 (by decide +kernel) (by decide +kernel), rfl, rfl⟩
theorem f_PF_58 : FL R_PF 58 6 0 (.boolean) true R_OpL := ⟨R_OpL, T_OpL, 10, ty_OpL, rfl, i_OpL, ok_OpL, nm_OpL, by decide, gw_in 236 (by decide +kernel) (by decide +kernel), rfl, rfl, rfl⟩
theorem f_PF_62 : FL R_PF 62 0 5 (.int) false R_PF := ⟨R_PF, T_PF, 12, ty_PF, rfl, i_PF, ok_PF, nm_PF, by decide, gw_in 180 (by decide +kernel) (by decide +kernel), rfl, rfl, rfl⟩
theorem c_PF_65 : OKS R_PF 65 t_PF_areSizes 3 := ⟨⟨gw_in 278 (by decide +kernel) (by decide +kernel), gw_in 1 (by decide +kernel) (by decide +kernel), by decide +kernel, by decide +kernel, by decide +kernel⟩, gw_in 276 (by decide +kernel) (by decide +kernel), gw_in 277 (by decide +kernel) (by decide +kernel)⟩
theorem n_PF_69 : NW R_PF 69 5 [.int 0, .int 0, .int 0, .int 0, .int 0, .int 0, .int 0, .int 0, .null, .null] 10 := ⟨R_Itm, T_Itm, ty_Itm, rfl, i_Itm, ok_Itm, gw_in 284 (by decide +kernel) (by decide +kernel), gw_in 285 (by decide +kernel) (by decide +kernel), gw_in 9 (by decide +kernel) (by decide +kernel), by decide +kernel⟩
theorem c_PF_71 : OKI R_PF 71 t_Itm_init 4 := ⟨⟨gw_in 288 (by decide +kernel) (by decide +kernel), gw_in 9 (by decide +kernel) (by decide +kernel), by decide +kernel, by decide +kernel, by decide +kernel⟩, gw_in 286 (by decide +kernel) (by decide +kernel), gw_in 287 (by decide +kernel) (by decide +kernel), rfl, rfl⟩
theorem f_PF_74 : FL R_PF 74 5 4 (.int) false R_Itm := ⟨R_Itm, T_Itm, 10, ty_Itm, rfl, i_Itm, ok_Itm, nm_Itm, by decide, gw_in 304 (by decide +kernel) (by decide +kernel), rfl, rfl, rfl⟩
theorem f_PF_77 : FL R_PF 77 5 5 (.int) false R_Itm := ⟨R_Itm, T_Itm, 10, ty_Itm, rfl, i_Itm, ok_Itm, nm_Itm, by decide, gw_in 306 (by decide +kernel) (by decide +kernel), rfl, rfl, rfl⟩
theorem c_PF_80 : OKV R_PF 80 t_OpL_join 1 := ⟨⟨gw_in 342 (by decide +kernel) (by decide +kernel), gw_in 8 (by decide +kernel) (by decide +kernel), by decide +kernel, by decide +kernel, by decide +kernel⟩, gw_in 339 (by decide +kernel) (by decide +kernel), gw_in 340 (by decide +kernel) (by decide +kernel), gw_in 341 (by decide +kernel) (by decide +kernel)⟩
theorem f_PF_84 : FL R_PF 84 5 6 (.int) false R_Itm := ⟨R_Itm, T_Itm, 10, ty_Itm, rfl, i_Itm, ok_Itm, nm_Itm, by decide, gw_in 309 (by decide +kernel) (by decide +kernel), rfl, rfl, rfl⟩
theorem c_PF_87 : OKS R_PF 87 t_PF_isSize 1 := ⟨⟨gw_in 281 (by decide +kernel) (by decide +kernel), gw_in 1 (by decide +kernel) (by decide +kernel), by decide +kernel, by decide +kernel, by decide +kernel⟩, gw_in 279 (by decide +kernel) (by decide +kernel), gw_in 280 (by decide +kernel) (by decide +kernel)⟩
theorem c_PF_91 : OKS R_PF 91 t_PF_isRegister 1 := ⟨⟨gw_in 371 (by decide +kernel) (by decide +kernel), gw_in 1 (by decide +kernel) (by decide +kernel), by decide +kernel, by decide +kernel, by decide +kernel⟩, gw_in 369 (by decide +kernel) (by decide +kernel), gw_in 370 (by decide +kernel) (by decide +kernel)⟩
theorem c_PF_94 : OKV R_PF 94 t_OpL_toBox 0 := ⟨⟨gw_in 375 (by decide +kernel) (by decide +kernel), gw_in 8 (by decide +kernel) (by decide +kernel), by decide +kernel, by decide +kernel, by decide +kernel⟩, gw_in 372 (by decide +kernel) (by decide +kernel), gw_in 373 (by decide +kernel) (by decide +kernel), gw_in 374 (by decide +kernel) (by decide +kernel)⟩
theorem f_PF_98 : FL R_PF 98 6 1 (.object "PageFile$OpenList") true R_OpL := ⟨R_OpL, T_OpL, 10, ty_OpL, rfl, i_OpL, ok_OpL, nm_OpL, by decide, gw_in 238 (by decide +kernel) (by decide +kernel), rfl, rfl, rfl⟩
theorem c_PF_101 : OKV R_PF 101 t_PF_dropBox 1 := ⟨⟨gw_in 422 (by decide +kernel) (by decide +kernel), gw_in 1 (by decide +kernel) (by decide +kernel), by decide +kernel, by decide +kernel, by decide +kernel⟩, gw_in 419 (by decide +kernel) (by decide +kernel), gw_in 421 (by decide +kernel) (by decide +kernel), gw_sel 2 (by decide +kernel) (by decide +kernel)⟩
theorem c_PF_105 : OKV R_PF 105 t_PF_boxOf 1 := ⟨⟨gw_in 426 (by decide +kernel) (by decide +kernel), gw_in 1 (by decide +kernel) (by decide +kernel), by decide +kernel, by decide +kernel, by decide +kernel⟩, gw_in 423 (by decide +kernel) (by decide +kernel), gw_in 425 (by decide +kernel) (by decide +kernel), gw_sel 3 (by decide +kernel) (by decide +kernel)⟩
theorem f_PF_109 : FL R_PF 109 1 5 (.int) true R_Box := ⟨R_Box, T_Box, 7, ty_Box, rfl, i_Box, ok_Box, nm_Box, by decide, gw_in 401 (by decide +kernel) (by decide +kernel), rfl, rfl, rfl⟩
theorem f_PF_110 : FL R_PF 110 1 1 (.int) true R_Box := ⟨R_Box, T_Box, 7, ty_Box, rfl, i_Box, ok_Box, nm_Box, by decide, gw_in 388 (by decide +kernel) (by decide +kernel), rfl, rfl, rfl⟩
theorem f_PF_113 : FL R_PF 113 1 2 (.int) true R_Box := ⟨R_Box, T_Box, 7, ty_Box, rfl, i_Box, ok_Box, nm_Box, by decide, gw_in 392 (by decide +kernel) (by decide +kernel), rfl, rfl, rfl⟩
theorem f_PF_116 : FL R_PF 116 1 3 (.int) true R_Box := ⟨R_Box, T_Box, 7, ty_Box, rfl, i_Box, ok_Box, nm_Box, by decide, gw_in 395 (by decide +kernel) (by decide +kernel), rfl, rfl, rfl⟩
theorem f_PF_119 : FL R_PF 119 5 8 (.object "PageFile$Box") false R_Itm := ⟨R_Itm, T_Itm, 10, ty_Itm, rfl, i_Itm, ok_Itm, nm_Itm, by decide, gw_in 315 (by decide +kernel) (by decide +kernel), rfl, rfl, rfl⟩
theorem f_PF_123 : FL R_PF 123 5 7 (.int) false R_Itm := ⟨R_Itm, T_Itm, 10, ty_Itm, rfl, i_Itm, ok_Itm, nm_Itm, by decide, gw_in 312 (by decide +kernel) (by decide +kernel), rfl, rfl, rfl⟩
theorem f_PF_126 : FL R_PF 126 0 11 (.boolean) false R_PF := ⟨R_PF, T_PF, 12, ty_PF, rfl, i_PF, ok_PF, nm_PF, by decide, gw_in 186 (by decide +kernel) (by decide +kernel), rfl, rfl, rfl⟩
theorem f_PF_136 : FLN R_PF 136 2 1 (.int) false "PageFile" := ⟨R_Byt, T_Byt, 2, ty_Byt, rfl, i_Byt, ok_Byt, nm_Byt, by decide, nw_in 43 (by decide +kernel) (by decide +kernel), rfl, rfl⟩
theorem k_PF_141 : Cond.constant R_PF 141 200000 ∈ gw := gw_in 522 (by decide +kernel) (by decide +kernel)
theorem c_PF_147 : OKV R_PF 147 t_PF_writePage 1 := ⟨⟨gw_in 542 (by decide +kernel) (by decide +kernel), gw_in 1 (by decide +kernel) (by decide +kernel), by decide +kernel, by decide +kernel, by decide +kernel⟩, gw_in 539 (by decide +kernel) (by decide +kernel), gw_in 541 (by decide +kernel) (by decide +kernel), gw_sel 5 (by decide +kernel) (by decide +kernel)⟩
theorem c_PF_155 : OKV R_PF 155 t_PF_writeBeginning 0 := ⟨⟨gw_in 546 (by decide +kernel) (by decide +kernel), gw_in 1 (by decide +kernel) (by decide +kernel), by decide +kernel, by decide +kernel, by decide +kernel⟩, gw_in 543 (by decide +kernel) (by decide +kernel), gw_in 545 (by decide +kernel) (by decide +kernel), gw_sel 6 (by decide +kernel) (by decide +kernel)⟩
theorem c_PF_158 : OKV R_PF 158 t_Byt_add 2 := ⟨⟨gw_in 550 (by decide +kernel) (by decide +kernel), gw_in 3 (by decide +kernel) (by decide +kernel), by decide +kernel, by decide +kernel, by decide +kernel⟩, gw_in 547 (by decide +kernel) (by decide +kernel), gw_in 548 (by decide +kernel) (by decide +kernel), gw_in 549 (by decide +kernel) (by decide +kernel)⟩
theorem c_PF_162 : OKV R_PF 162 t_PF_writeUnits 0 := ⟨⟨gw_in 570 (by decide +kernel) (by decide +kernel), gw_in 1 (by decide +kernel) (by decide +kernel), by decide +kernel, by decide +kernel, by decide +kernel⟩, gw_in 567 (by decide +kernel) (by decide +kernel), gw_in 569 (by decide +kernel) (by decide +kernel), gw_sel 7 (by decide +kernel) (by decide +kernel)⟩
theorem f_PF_165 : FL R_PF 165 0 8 (.int) false R_PF := ⟨R_PF, T_PF, 12, ty_PF, rfl, i_PF, ok_PF, nm_PF, by decide, gw_in 183 (by decide +kernel) (by decide +kernel), rfl, rfl, rfl⟩
theorem f_PF_168 : FL R_PF 168 0 9 (.int) false R_PF := ⟨R_PF, T_PF, 12, ty_PF, rfl, i_PF, ok_PF, nm_PF, by decide, gw_in 184 (by decide +kernel) (by decide +kernel), rfl, rfl, rfl⟩
theorem f_PF_171 : FL R_PF 171 0 10 (.int) false R_PF := ⟨R_PF, T_PF, 12, ty_PF, rfl, i_PF, ok_PF, nm_PF, by decide, gw_in 185 (by decide +kernel) (by decide +kernel), rfl, rfl, rfl⟩
theorem f_PF_174 : FL R_PF 174 0 6 (.int) false R_PF := ⟨R_PF, T_PF, 12, ty_PF, rfl, i_PF, ok_PF, nm_PF, by decide, gw_in 181 (by decide +kernel) (by decide +kernel), rfl, rfl, rfl⟩
theorem c_PF_177 : OKV R_PF 177 t_Fon_isUsed 1 := ⟨⟨gw_in 677 (by decide +kernel) (by decide +kernel), gw_in 4 (by decide +kernel) (by decide +kernel), by decide +kernel, by decide +kernel, by decide +kernel⟩, gw_in 697 (by decide +kernel) (by decide +kernel), gw_in 675 (by decide +kernel) (by decide +kernel), gw_in 676 (by decide +kernel) (by decide +kernel)⟩
theorem c_PF_180 : OKV R_PF 180 t_Fon_write 2 := ⟨⟨gw_in 681 (by decide +kernel) (by decide +kernel), gw_in 4 (by decide +kernel) (by decide +kernel), by decide +kernel, by decide +kernel, by decide +kernel⟩, gw_in 698 (by decide +kernel) (by decide +kernel), gw_in 679 (by decide +kernel) (by decide +kernel), gw_in 680 (by decide +kernel) (by decide +kernel)⟩
theorem c_PF_184 : OKV R_PF 184 t_Byt_get 1 := ⟨⟨gw_in 438 (by decide +kernel) (by decide +kernel), gw_in 3 (by decide +kernel) (by decide +kernel), by decide +kernel, by decide +kernel, by decide +kernel⟩, gw_in 435 (by decide +kernel) (by decide +kernel), gw_in 436 (by decide +kernel) (by decide +kernel), gw_in 437 (by decide +kernel) (by decide +kernel)⟩
theorem k_PF_188 : Cond.constantLong R_PF 188 (-1073741823) ∈ gw := gw_in 282 (by decide +kernel) (by decide +kernel)
theorem k_PF_190 : Cond.constantLong R_PF 190 1073741823 ∈ gw := gw_in 283 (by decide +kernel) (by decide +kernel)
theorem f_PF_192 : FLN R_PF 192 3 2 (.int) false "PageFile" := ⟨R_Fon, T_Fon, 3, ty_Fon, rfl, i_Fon, ok_Fon, nm_Fon, by decide, nw_in 59 (by decide +kernel) (by decide +kernel), rfl, rfl⟩
theorem c_PF_195 : OKV R_PF 195 t_PgW_writeBox 1 := ⟨⟨gw_in 576 (by decide +kernel) (by decide +kernel), gw_in 2 (by decide +kernel) (by decide +kernel), by decide +kernel, by decide +kernel, by decide +kernel⟩, gw_in 573 (by decide +kernel) (by decide +kernel), gw_in 574 (by decide +kernel) (by decide +kernel), gw_in 575 (by decide +kernel) (by decide +kernel)⟩
theorem c_PF_198 : OKV R_PF 198 t_Byt_cutTo 1 := ⟨⟨gw_in 686 (by decide +kernel) (by decide +kernel), gw_in 3 (by decide +kernel) (by decide +kernel), by decide +kernel, by decide +kernel, by decide +kernel⟩, gw_in 683 (by decide +kernel) (by decide +kernel), gw_in 684 (by decide +kernel) (by decide +kernel), gw_in 685 (by decide +kernel) (by decide +kernel)⟩
theorem mx_PF_201 : Cond.methodLink R_PF 201 Lib.Math.max.name ∈ gw := gw_in 687 (by decide +kernel) (by decide +kernel)
theorem f_PF_207 : FLN R_PF 207 7 6 (.int) false "PageFile" := ⟨R_PgW, T_PgW, 8, ty_PgW, rfl, i_PgW, ok_PgW, nm_PgW, by decide, nw_in 156 (by decide +kernel) (by decide +kernel), rfl, rfl⟩
theorem k_PF_208 : Cond.constant R_PF 208 25400000 ∈ gw := gw_in 571 (by decide +kernel) (by decide +kernel)
theorem k_PF_209 : Cond.constant R_PF 209 473628672 ∈ gw := gw_in 572 (by decide +kernel) (by decide +kernel)
theorem oi_Mod : Cond.methodLink R_Mod 1 objectInit ∈ gw := gw_in 704 (by decide +kernel) (by decide +kernel)
theorem f_Mod_7 : FL R_Mod 7 9 1 (.array (.int)) true R_Mod := ⟨R_Mod, T_Mod, 34, ty_Mod, rfl, i_Mod, ok_Mod, nm_Mod, by decide, gw_in 707 (by decide +kernel) (by decide +kernel), rfl, rfl, rfl⟩
theorem f_Mod_13 : FL R_Mod 13 9 2 (.array (.int)) true R_Mod := ⟨R_Mod, T_Mod, 34, ty_Mod, rfl, i_Mod, ok_Mod, nm_Mod, by decide, gw_in 708 (by decide +kernel) (by decide +kernel), rfl, rfl, rfl⟩
theorem f_Mod_16 : FL R_Mod 16 9 3 (.array (.int)) true R_Mod := ⟨R_Mod, T_Mod, 34, ty_Mod, rfl, i_Mod, ok_Mod, nm_Mod, by decide, gw_in 709 (by decide +kernel) (by decide +kernel), rfl, rfl, rfl⟩
theorem f_Mod_19 : FL R_Mod 19 9 4 (.array (.int)) true R_Mod := ⟨R_Mod, T_Mod, 34, ty_Mod, rfl, i_Mod, ok_Mod, nm_Mod, by decide, gw_in 710 (by decide +kernel) (by decide +kernel), rfl, rfl, rfl⟩
theorem f_Mod_22 : FL R_Mod 22 9 5 (.array (.int)) true R_Mod := ⟨R_Mod, T_Mod, 34, ty_Mod, rfl, i_Mod, ok_Mod, nm_Mod, by decide, gw_in 711 (by decide +kernel) (by decide +kernel), rfl, rfl, rfl⟩
theorem f_Mod_25 : FL R_Mod 25 9 6 (.array (.int)) true R_Mod := ⟨R_Mod, T_Mod, 34, ty_Mod, rfl, i_Mod, ok_Mod, nm_Mod, by decide, gw_in 712 (by decide +kernel) (by decide +kernel), rfl, rfl, rfl⟩
theorem f_Mod_28 : FL R_Mod 28 9 7 (.array (.int)) true R_Mod := ⟨R_Mod, T_Mod, 34, ty_Mod, rfl, i_Mod, ok_Mod, nm_Mod, by decide, gw_in 713 (by decide +kernel) (by decide +kernel), rfl, rfl, rfl⟩
theorem f_Mod_31 : FL R_Mod 31 9 9 (.array (.int)) true R_Mod := ⟨R_Mod, T_Mod, 34, ty_Mod, rfl, i_Mod, ok_Mod, nm_Mod, by decide, gw_in 715 (by decide +kernel) (by decide +kernel), rfl, rfl, rfl⟩
theorem f_Mod_34 : FL R_Mod 34 9 10 (.array (.boolean)) true R_Mod := ⟨R_Mod, T_Mod, 34, ty_Mod, rfl, i_Mod, ok_Mod, nm_Mod, by decide, gw_in 716 (by decide +kernel) (by decide +kernel), rfl, rfl, rfl⟩
theorem f_Mod_38 : FL R_Mod 38 9 12 (.array (.int)) true R_Mod := ⟨R_Mod, T_Mod, 34, ty_Mod, rfl, i_Mod, ok_Mod, nm_Mod, by decide, gw_in 718 (by decide +kernel) (by decide +kernel), rfl, rfl, rfl⟩
theorem f_Mod_41 : FL R_Mod 41 9 13 (.array (.int)) true R_Mod := ⟨R_Mod, T_Mod, 34, ty_Mod, rfl, i_Mod, ok_Mod, nm_Mod, by decide, gw_in 719 (by decide +kernel) (by decide +kernel), rfl, rfl, rfl⟩
theorem f_Mod_44 : FL R_Mod 44 9 14 (.array (.int)) true R_Mod := ⟨R_Mod, T_Mod, 34, ty_Mod, rfl, i_Mod, ok_Mod, nm_Mod, by decide, gw_in 720 (by decide +kernel) (by decide +kernel), rfl, rfl, rfl⟩
theorem f_Mod_47 : FL R_Mod 47 9 15 (.array (.boolean)) true R_Mod := ⟨R_Mod, T_Mod, 34, ty_Mod, rfl, i_Mod, ok_Mod, nm_Mod, by decide, gw_in 721 (by decide +kernel) (by decide +kernel), rfl, rfl, rfl⟩
theorem f_Mod_50 : FL R_Mod 50 9 16 (.array (.boolean)) true R_Mod := ⟨R_Mod, T_Mod, 34, ty_Mod, rfl, i_Mod, ok_Mod, nm_Mod, by decide, gw_in 722 (by decide +kernel) (by decide +kernel), rfl, rfl, rfl⟩
theorem k_Mod_53 : Cond.constant R_Mod 53 320000 ∈ gw := gw_in 705 (by decide +kernel) (by decide +kernel)
theorem f_Mod_54 : FL R_Mod 54 9 17 (.array (.byte)) true R_Mod := ⟨R_Mod, T_Mod, 34, ty_Mod, rfl, i_Mod, ok_Mod, nm_Mod, by decide, gw_in 723 (by decide +kernel) (by decide +kernel), rfl, rfl, rfl⟩
theorem f_Mod_58 : FL R_Mod 58 9 21 (.int) false R_Mod := ⟨R_Mod, T_Mod, 34, ty_Mod, rfl, i_Mod, ok_Mod, nm_Mod, by decide, gw_in 727 (by decide +kernel) (by decide +kernel), rfl, rfl, rfl⟩
theorem f_Mod_62 : FL R_Mod 62 9 25 (.array (.int)) true R_Mod := ⟨R_Mod, T_Mod, 34, ty_Mod, rfl, i_Mod, ok_Mod, nm_Mod, by decide, gw_in 731 (by decide +kernel) (by decide +kernel), rfl, rfl, rfl⟩
theorem f_Mod_65 : FL R_Mod 65 9 26 (.array (.int)) true R_Mod := ⟨R_Mod, T_Mod, 34, ty_Mod, rfl, i_Mod, ok_Mod, nm_Mod, by decide, gw_in 732 (by decide +kernel) (by decide +kernel), rfl, rfl, rfl⟩
theorem f_Mod_68 : FL R_Mod 68 9 28 (.array (.int)) true R_Mod := ⟨R_Mod, T_Mod, 34, ty_Mod, rfl, i_Mod, ok_Mod, nm_Mod, by decide, gw_in 734 (by decide +kernel) (by decide +kernel), rfl, rfl, rfl⟩
theorem f_Mod_71 : FL R_Mod 71 9 29 (.array (.long)) true R_Mod := ⟨R_Mod, T_Mod, 34, ty_Mod, rfl, i_Mod, ok_Mod, nm_Mod, by decide, gw_in 735 (by decide +kernel) (by decide +kernel), rfl, rfl, rfl⟩
theorem f_Mod_75 : FL R_Mod 75 9 30 (.array (.int)) true R_Mod := ⟨R_Mod, T_Mod, 34, ty_Mod, rfl, i_Mod, ok_Mod, nm_Mod, by decide, gw_in 736 (by decide +kernel) (by decide +kernel), rfl, rfl, rfl⟩
theorem f_Mod_78 : FL R_Mod 78 9 31 (.array (.int)) true R_Mod := ⟨R_Mod, T_Mod, 34, ty_Mod, rfl, i_Mod, ok_Mod, nm_Mod, by decide, gw_in 737 (by decide +kernel) (by decide +kernel), rfl, rfl, rfl⟩
theorem f_Mod_81 : FL R_Mod 81 9 0 (.int) false R_Mod := ⟨R_Mod, T_Mod, 34, ty_Mod, rfl, i_Mod, ok_Mod, nm_Mod, by decide, gw_in 706 (by decide +kernel) (by decide +kernel), rfl, rfl, rfl⟩
theorem k_Mod_84 : Cond.constant R_Mod 84 (-1073741823) ∈ gw := gw_in 834 (by decide +kernel) (by decide +kernel)
theorem k_Mod_85 : Cond.constant R_Mod 85 1073741823 ∈ gw := gw_in 835 (by decide +kernel) (by decide +kernel)
theorem k_Mod_86 : Cond.constantLong R_Mod 86 (-1073741823) ∈ gw := gw_in 868 (by decide +kernel) (by decide +kernel)
theorem k_Mod_88 : Cond.constantLong R_Mod 88 1073741823 ∈ gw := gw_in 869 (by decide +kernel) (by decide +kernel)
theorem f_Mod_90 : FL R_Mod 90 9 11 (.int) false R_Mod := ⟨R_Mod, T_Mod, 34, ty_Mod, rfl, i_Mod, ok_Mod, nm_Mod, by decide, gw_in 717 (by decide +kernel) (by decide +kernel), rfl, rfl, rfl⟩
theorem c_Mod_93 : OKV R_Mod 93 t_Mod_shelved 0 := ⟨⟨gw_in 847 (by decide +kernel) (by decide +kernel), gw_in 7 (by decide +kernel) (by decide +kernel), by decide +kernel, by decide +kernel, by decide +kernel⟩, gw_in 844 (by decide +kernel) (by decide +kernel), gw_in 846 (by decide +kernel) (by decide +kernel), gw_sel 17 (by decide +kernel) (by decide +kernel)⟩
theorem f_Mod_97 : FL R_Mod 97 9 8 (.int) false R_Mod := ⟨R_Mod, T_Mod, 34, ty_Mod, rfl, i_Mod, ok_Mod, nm_Mod, by decide, gw_in 714 (by decide +kernel) (by decide +kernel), rfl, rfl, rfl⟩
theorem c_Mod_100 : OKV R_Mod 100 t_Mod_hasRoom 1 := ⟨⟨gw_in 843 (by decide +kernel) (by decide +kernel), gw_in 7 (by decide +kernel) (by decide +kernel), by decide +kernel, by decide +kernel, by decide +kernel⟩, gw_in 840 (by decide +kernel) (by decide +kernel), gw_in 842 (by decide +kernel) (by decide +kernel), gw_sel 16 (by decide +kernel) (by decide +kernel)⟩
theorem c_Mod_104 : OKV R_Mod 104 t_Mod_isVertical 0 := ⟨⟨gw_in 830 (by decide +kernel) (by decide +kernel), gw_in 7 (by decide +kernel) (by decide +kernel), by decide +kernel, by decide +kernel, by decide +kernel⟩, gw_in 827 (by decide +kernel) (by decide +kernel), gw_in 829 (by decide +kernel) (by decide +kernel), gw_sel 14 (by decide +kernel) (by decide +kernel)⟩
theorem c_Mod_108 : OKS R_Mod 108 t_Mod_isSize 1 := ⟨⟨gw_in 833 (by decide +kernel) (by decide +kernel), gw_in 7 (by decide +kernel) (by decide +kernel), by decide +kernel, by decide +kernel, by decide +kernel⟩, gw_in 831 (by decide +kernel) (by decide +kernel), gw_in 832 (by decide +kernel) (by decide +kernel)⟩
theorem c_Mod_111 : OKV R_Mod 111 t_Mod_add 7 := ⟨⟨gw_in 839 (by decide +kernel) (by decide +kernel), gw_in 7 (by decide +kernel) (by decide +kernel), by decide +kernel, by decide +kernel, by decide +kernel⟩, gw_in 836 (by decide +kernel) (by decide +kernel), gw_in 838 (by decide +kernel) (by decide +kernel), gw_sel 15 (by decide +kernel) (by decide +kernel)⟩
theorem k_Mod_115 : Cond.constant R_Mod 115 (-2147483648) ∈ gw := gw_in 852 (by decide +kernel) (by decide +kernel)
theorem c_Mod_116 : OKV R_Mod 116 t_Mod_isBox 1 := ⟨⟨gw_in 864 (by decide +kernel) (by decide +kernel), gw_in 7 (by decide +kernel) (by decide +kernel), by decide +kernel, by decide +kernel, by decide +kernel⟩, gw_in 861 (by decide +kernel) (by decide +kernel), gw_in 863 (by decide +kernel) (by decide +kernel), gw_sel 18 (by decide +kernel) (by decide +kernel)⟩
theorem c_Mod_119 : OKV R_Mod 119 t_Mod_start 1 := ⟨⟨gw_in 881 (by decide +kernel) (by decide +kernel), gw_in 7 (by decide +kernel) (by decide +kernel), by decide +kernel, by decide +kernel, by decide +kernel⟩, gw_in 878 (by decide +kernel) (by decide +kernel), gw_in 880 (by decide +kernel) (by decide +kernel), gw_sel 21 (by decide +kernel) (by decide +kernel)⟩
theorem c_Mod_123 : OKV R_Mod 123 t_Mod_move 2 := ⟨⟨gw_in 885 (by decide +kernel) (by decide +kernel), gw_in 7 (by decide +kernel) (by decide +kernel), by decide +kernel, by decide +kernel, by decide +kernel⟩, gw_in 882 (by decide +kernel) (by decide +kernel), gw_in 884 (by decide +kernel) (by decide +kernel), gw_sel 22 (by decide +kernel) (by decide +kernel)⟩
theorem c_Mod_127 : OKS R_Mod 127 t_Mod_isSizeLong 1 := ⟨⟨gw_in 867 (by decide +kernel) (by decide +kernel), gw_in 7 (by decide +kernel) (by decide +kernel), by decide +kernel, by decide +kernel, by decide +kernel⟩, gw_in 865 (by decide +kernel) (by decide +kernel), gw_in 866 (by decide +kernel) (by decide +kernel)⟩
theorem c_Mod_131 : OKV R_Mod 131 t_Mod_nested 2 := ⟨⟨gw_in 873 (by decide +kernel) (by decide +kernel), gw_in 7 (by decide +kernel) (by decide +kernel), by decide +kernel, by decide +kernel, by decide +kernel⟩, gw_in 870 (by decide +kernel) (by decide +kernel), gw_in 872 (by decide +kernel) (by decide +kernel), gw_sel 19 (by decide +kernel) (by decide +kernel)⟩
theorem c_Mod_135 : OKV R_Mod 135 t_Mod_empty 1 := ⟨⟨gw_in 877 (by decide +kernel) (by decide +kernel), gw_in 7 (by decide +kernel) (by decide +kernel), by decide +kernel, by decide +kernel, by decide +kernel⟩, gw_in 874 (by decide +kernel) (by decide +kernel), gw_in 876 (by decide +kernel) (by decide +kernel), gw_sel 20 (by decide +kernel) (by decide +kernel)⟩
theorem c_Mod_139 : OKV R_Mod 139 t_Mod_make 2 := ⟨⟨gw_in 889 (by decide +kernel) (by decide +kernel), gw_in 7 (by decide +kernel) (by decide +kernel), by decide +kernel, by decide +kernel, by decide +kernel⟩, gw_in 886 (by decide +kernel) (by decide +kernel), gw_in 888 (by decide +kernel) (by decide +kernel), gw_sel 23 (by decide +kernel) (by decide +kernel)⟩
theorem c_Mod_142 : OKV R_Mod 142 t_Mod_isFull 1 := ⟨⟨gw_in 897 (by decide +kernel) (by decide +kernel), gw_in 7 (by decide +kernel) (by decide +kernel), by decide +kernel, by decide +kernel, by decide +kernel⟩, gw_in 894 (by decide +kernel) (by decide +kernel), gw_in 896 (by decide +kernel) (by decide +kernel), gw_sel 24 (by decide +kernel) (by decide +kernel)⟩
theorem f_Mod_145 : FL R_Mod 145 9 18 (.int) false R_Mod := ⟨R_Mod, T_Mod, 34, ty_Mod, rfl, i_Mod, ok_Mod, nm_Mod, by decide, gw_in 724 (by decide +kernel) (by decide +kernel), rfl, rfl, rfl⟩
theorem k_Mod_148 : Cond.constant R_Mod 148 25400000 ∈ gw := gw_in 927 (by decide +kernel) (by decide +kernel)
theorem c_Mod_149 : OKV R_Mod 149 t_Mod_write 2 := ⟨⟨gw_in 922 (by decide +kernel) (by decide +kernel), gw_in 7 (by decide +kernel) (by decide +kernel), by decide +kernel, by decide +kernel, by decide +kernel⟩, gw_in 919 (by decide +kernel) (by decide +kernel), gw_in 921 (by decide +kernel) (by decide +kernel), gw_sel 29 (by decide +kernel) (by decide +kernel)⟩
theorem k_Mod_152 : Cond.constant R_Mod 152 473628672 ∈ gw := gw_in 928 (by decide +kernel) (by decide +kernel)
theorem c_Mod_153 : OKV R_Mod 153 t_Mod_writeNumbers 0 := ⟨⟨gw_in 926 (by decide +kernel) (by decide +kernel), gw_in 7 (by decide +kernel) (by decide +kernel), by decide +kernel, by decide +kernel, by decide +kernel⟩, gw_in 923 (by decide +kernel) (by decide +kernel), gw_in 925 (by decide +kernel) (by decide +kernel), gw_sel 30 (by decide +kernel) (by decide +kernel)⟩
theorem f_Mod_156 : FL R_Mod 156 9 33 (.boolean) false R_Mod := ⟨R_Mod, T_Mod, 34, ty_Mod, rfl, i_Mod, ok_Mod, nm_Mod, by decide, gw_in 739 (by decide +kernel) (by decide +kernel), rfl, rfl, rfl⟩
theorem f_Mod_160 : FL R_Mod 160 9 27 (.int) false R_Mod := ⟨R_Mod, T_Mod, 34, ty_Mod, rfl, i_Mod, ok_Mod, nm_Mod, by decide, gw_in 733 (by decide +kernel) (by decide +kernel), rfl, rfl, rfl⟩
theorem c_Mod_163 : OKV R_Mod 163 t_Mod_sized 1 := ⟨⟨gw_in 914 (by decide +kernel) (by decide +kernel), gw_in 7 (by decide +kernel) (by decide +kernel), by decide +kernel, by decide +kernel, by decide +kernel⟩, gw_in 911 (by decide +kernel) (by decide +kernel), gw_in 913 (by decide +kernel) (by decide +kernel), gw_sel 27 (by decide +kernel) (by decide +kernel)⟩
theorem c_Mod_167 : OKV R_Mod 167 t_Mod_enter 2 := ⟨⟨gw_in 910 (by decide +kernel) (by decide +kernel), gw_in 7 (by decide +kernel) (by decide +kernel), by decide +kernel, by decide +kernel, by decide +kernel⟩, gw_in 907 (by decide +kernel) (by decide +kernel), gw_in 909 (by decide +kernel) (by decide +kernel), gw_sel 26 (by decide +kernel) (by decide +kernel)⟩
theorem k_Mod_170 : Cond.constant R_Mod 170 32768 ∈ gw := gw_in 948 (by decide +kernel) (by decide +kernel)
theorem k_Mod_171 : Cond.constant R_Mod 171 (-8388608) ∈ gw := gw_in 949 (by decide +kernel) (by decide +kernel)
theorem k_Mod_172 : Cond.constant R_Mod 172 8388608 ∈ gw := gw_in 950 (by decide +kernel) (by decide +kernel)
theorem c_Mod_173 : OKS R_Mod 173 t_Mod_bytes 1 := ⟨⟨gw_in 947 (by decide +kernel) (by decide +kernel), gw_in 7 (by decide +kernel) (by decide +kernel), by decide +kernel, by decide +kernel, by decide +kernel⟩, gw_in 945 (by decide +kernel) (by decide +kernel), gw_in 946 (by decide +kernel) (by decide +kernel)⟩
theorem c_Mod_176 : OKV R_Mod 176 t_Mod_go 2 := ⟨⟨gw_in 944 (by decide +kernel) (by decide +kernel), gw_in 7 (by decide +kernel) (by decide +kernel), by decide +kernel, by decide +kernel, by decide +kernel⟩, gw_in 941 (by decide +kernel) (by decide +kernel), gw_in 943 (by decide +kernel) (by decide +kernel), gw_sel 34 (by decide +kernel) (by decide +kernel)⟩
theorem c_Mod_179 : OKV R_Mod 179 t_Mod_writeFont 1 := ⟨⟨gw_in 958 (by decide +kernel) (by decide +kernel), gw_in 7 (by decide +kernel) (by decide +kernel), by decide +kernel, by decide +kernel, by decide +kernel⟩, gw_in 955 (by decide +kernel) (by decide +kernel), gw_in 957 (by decide +kernel) (by decide +kernel), gw_sel 36 (by decide +kernel) (by decide +kernel)⟩
theorem f_Mod_182 : FL R_Mod 182 9 32 (.int) false R_Mod := ⟨R_Mod, T_Mod, 34, ty_Mod, rfl, i_Mod, ok_Mod, nm_Mod, by decide, gw_in 738 (by decide +kernel) (by decide +kernel), rfl, rfl, rfl⟩
theorem c_Mod_185 : OKV R_Mod 185 t_Mod_goTo 2 := ⟨⟨gw_in 940 (by decide +kernel) (by decide +kernel), gw_in 7 (by decide +kernel) (by decide +kernel), by decide +kernel, by decide +kernel, by decide +kernel⟩, gw_in 937 (by decide +kernel) (by decide +kernel), gw_in 939 (by decide +kernel) (by decide +kernel), gw_sel 33 (by decide +kernel) (by decide +kernel)⟩
theorem c_Mod_188 : OKV R_Mod 188 t_Mod_leave 0 := ⟨⟨gw_in 936 (by decide +kernel) (by decide +kernel), gw_in 7 (by decide +kernel) (by decide +kernel), by decide +kernel, by decide +kernel, by decide +kernel⟩, gw_in 933 (by decide +kernel) (by decide +kernel), gw_in 935 (by decide +kernel) (by decide +kernel), gw_sel 32 (by decide +kernel) (by decide +kernel)⟩
theorem f_Mod_191 : FL R_Mod 191 9 24 (.int) false R_Mod := ⟨R_Mod, T_Mod, 34, ty_Mod, rfl, i_Mod, ok_Mod, nm_Mod, by decide, gw_in 730 (by decide +kernel) (by decide +kernel), rfl, rfl, rfl⟩
theorem c_Mod_194 : OKV R_Mod 194 t_Mod_writeCharacter 1 := ⟨⟨gw_in 954 (by decide +kernel) (by decide +kernel), gw_in 7 (by decide +kernel) (by decide +kernel), by decide +kernel, by decide +kernel, by decide +kernel⟩, gw_in 951 (by decide +kernel) (by decide +kernel), gw_in 953 (by decide +kernel) (by decide +kernel), gw_sel 35 (by decide +kernel) (by decide +kernel)⟩
theorem c_Mod_197 : OKV R_Mod 197 t_Mod_boxOf 2 := ⟨⟨gw_in 962 (by decide +kernel) (by decide +kernel), gw_in 7 (by decide +kernel) (by decide +kernel), by decide +kernel, by decide +kernel, by decide +kernel⟩, gw_in 959 (by decide +kernel) (by decide +kernel), gw_in 961 (by decide +kernel) (by decide +kernel), gw_sel 37 (by decide +kernel) (by decide +kernel)⟩
theorem c_Mod_200 : OKV R_Mod 200 t_Mod_writeRule 3 := ⟨⟨gw_in 966 (by decide +kernel) (by decide +kernel), gw_in 7 (by decide +kernel) (by decide +kernel), by decide +kernel, by decide +kernel, by decide +kernel⟩, gw_in 963 (by decide +kernel) (by decide +kernel), gw_in 965 (by decide +kernel) (by decide +kernel), gw_sel 38 (by decide +kernel) (by decide +kernel)⟩
theorem f_Mod_204 : FL R_Mod 204 9 19 (.boolean) false R_Mod := ⟨R_Mod, T_Mod, 34, ty_Mod, rfl, i_Mod, ok_Mod, nm_Mod, by decide, gw_in 725 (by decide +kernel) (by decide +kernel), rfl, rfl, rfl⟩
theorem k_Mod_207 : Cond.constant R_Mod 207 200000 ∈ gw := gw_in 902 (by decide +kernel) (by decide +kernel)
theorem c_Mod_208 : OKV R_Mod 208 t_Mod_placeAll 2 := ⟨⟨gw_in 906 (by decide +kernel) (by decide +kernel), gw_in 7 (by decide +kernel) (by decide +kernel), by decide +kernel, by decide +kernel, by decide +kernel⟩, gw_in 903 (by decide +kernel) (by decide +kernel), gw_in 905 (by decide +kernel) (by decide +kernel), gw_sel 25 (by decide +kernel) (by decide +kernel)⟩
theorem c_Mod_211 : OKV R_Mod 211 t_Mod_writeBeginning 0 := ⟨⟨gw_in 918 (by decide +kernel) (by decide +kernel), gw_in 7 (by decide +kernel) (by decide +kernel), by decide +kernel, by decide +kernel, by decide +kernel⟩, gw_in 915 (by decide +kernel) (by decide +kernel), gw_in 917 (by decide +kernel) (by decide +kernel), gw_sel 28 (by decide +kernel) (by decide +kernel)⟩
theorem f_Mod_214 : FL R_Mod 214 9 20 (.int) false R_Mod := ⟨R_Mod, T_Mod, 34, ty_Mod, rfl, i_Mod, ok_Mod, nm_Mod, by decide, gw_in 726 (by decide +kernel) (by decide +kernel), rfl, rfl, rfl⟩
theorem c_Mod_217 : OKV R_Mod 217 t_Mod_writeAll 2 := ⟨⟨gw_in 932 (by decide +kernel) (by decide +kernel), gw_in 7 (by decide +kernel) (by decide +kernel), by decide +kernel, by decide +kernel, by decide +kernel⟩, gw_in 929 (by decide +kernel) (by decide +kernel), gw_in 931 (by decide +kernel) (by decide +kernel), gw_sel 31 (by decide +kernel) (by decide +kernel)⟩
theorem f_Mod_220 : FL R_Mod 220 9 22 (.long) false R_Mod := ⟨R_Mod, T_Mod, 34, ty_Mod, rfl, i_Mod, ok_Mod, nm_Mod, by decide, gw_in 728 (by decide +kernel) (by decide +kernel), rfl, rfl, rfl⟩
theorem f_Mod_224 : FL R_Mod 224 9 23 (.int) false R_Mod := ⟨R_Mod, T_Mod, 34, ty_Mod, rfl, i_Mod, ok_Mod, nm_Mod, by decide, gw_in 729 (by decide +kernel) (by decide +kernel), rfl, rfl, rfl⟩
theorem oi1 : Cond.instanceMethod objectInit ∈ gw := gw_in 25 (by decide +kernel) (by decide +kernel)
theorem oi2 : Cond.code objectInit ⟨#[0xb1]⟩ 1 none ∈ gw := gw_in 26 (by decide +kernel) (by decide +kernel)
theorem mxi1 : Cond.static Lib.Math.max.name ∈ gw := gw_in 344 (by decide +kernel) (by decide +kernel)
theorem mxi2 : Cond.code Lib.Math.max.name Lib.Math.max.code 2 (some .int) ∈ gw := gw_in 345 (by decide +kernel) (by decide +kernel)
theorem mxl1 : Cond.static Lib.MathLoose.max_long.x ∈ gw := gw_in 351 (by decide +kernel) (by decide +kernel)
theorem mxl2 : Cond.code Lib.MathLoose.max_long.x Lib.MathLoose.max_long.code 4 (some .long) ∈ gw := gw_in 352 (by decide +kernel) (by decide +kernel)
theorem mx0 : Cond.initialized "java/lang/Math" ∈ gw := gw_in 10 (by decide +kernel) (by decide +kernel)
theorem aw_int : Cond.arrayClass .int ∈ gw := gw_in 67 (by decide +kernel) (by decide +kernel)
theorem aw_byte : Cond.arrayClass .byte ∈ gw := gw_in 49 (by decide +kernel) (by decide +kernel)
theorem aw_boolean : Cond.arrayClass .boolean ∈ gw := gw_in 809 (by decide +kernel) (by decide +kernel)
theorem aw_long : Cond.arrayClass .long ∈ gw := gw_in 810 (by decide +kernel) (by decide +kernel)
theorem aw_Box : Cond.arrayOver (.object R_Box) ∈ nw := nw_in 28 (by decide +kernel) (by decide +kernel)
end
