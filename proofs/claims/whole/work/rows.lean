section
-- ===== PART A: goes FIRST, ahead of the names: the tables' words, and 'selects' of the private methods out of them =====
/-- a private method of a class that the tables say can be made, by its rows of tables_1 -/
def lw_okq (q : MethodName × Nat) : Prop := (q.1.cls ≠ "java/lang/invoke/MethodHandle" ∧ q.1.cls ≠ "java/lang/invoke/VarHandle") ∧ Cond.instantiable q.1.cls q.2 ∈ tables_1 ∧ Cond.privateMethod q.1 ∈ tables_1 ∧ Cond.instanceMethod q.1 ∈ tables_1
theorem lw_p0 : lw_okq (⟨"PageFile$OpenList", "measureDown", "(LPageFile$Item;)V"⟩, 10) := ⟨⟨by decide +kernel, by decide +kernel⟩, List.mem_of_getElem? (i := 229) (by decide +kernel), List.mem_of_getElem? (i := 347) (by decide +kernel), List.mem_of_getElem? (i := 348) (by decide +kernel)⟩
theorem lw_p1 : lw_okq (⟨"PageFile$OpenList", "measureAcross", "(LPageFile$Item;)V"⟩, 10) := ⟨⟨by decide +kernel, by decide +kernel⟩, List.mem_of_getElem? (i := 229) (by decide +kernel), List.mem_of_getElem? (i := 354) (by decide +kernel), List.mem_of_getElem? (i := 355) (by decide +kernel)⟩
theorem lw_p2 : lw_okq (⟨"PageFile", "dropBox", "(I)V"⟩, 12) := ⟨⟨by decide +kernel, by decide +kernel⟩, List.mem_of_getElem? (i := 20) (by decide +kernel), List.mem_of_getElem? (i := 420) (by decide +kernel), List.mem_of_getElem? (i := 421) (by decide +kernel)⟩
theorem lw_p3 : lw_okq (⟨"PageFile", "boxOf", "(I)LPageFile$Box;"⟩, 12) := ⟨⟨by decide +kernel, by decide +kernel⟩, List.mem_of_getElem? (i := 20) (by decide +kernel), List.mem_of_getElem? (i := 424) (by decide +kernel), List.mem_of_getElem? (i := 425) (by decide +kernel)⟩
theorem lw_p4 : lw_okq (⟨"java/lang/Throwable", "fillInStackTrace", "(I)Ljava/lang/Throwable;"⟩, 6) := ⟨⟨by decide +kernel, by decide +kernel⟩, List.mem_of_getElem? (i := 494) (by decide +kernel), List.mem_of_getElem? (i := 492) (by decide +kernel), List.mem_of_getElem? (i := 493) (by decide +kernel)⟩
theorem lw_p5 : lw_okq (⟨"PageFile", "writePage", "(LPageFile$Box;)Z"⟩, 12) := ⟨⟨by decide +kernel, by decide +kernel⟩, List.mem_of_getElem? (i := 20) (by decide +kernel), List.mem_of_getElem? (i := 540) (by decide +kernel), List.mem_of_getElem? (i := 541) (by decide +kernel)⟩
theorem lw_p6 : lw_okq (⟨"PageFile", "writeBeginning", "()V"⟩, 12) := ⟨⟨by decide +kernel, by decide +kernel⟩, List.mem_of_getElem? (i := 20) (by decide +kernel), List.mem_of_getElem? (i := 544) (by decide +kernel), List.mem_of_getElem? (i := 545) (by decide +kernel)⟩
theorem lw_p7 : lw_okq (⟨"PageFile", "writeUnits", "()V"⟩, 12) := ⟨⟨by decide +kernel, by decide +kernel⟩, List.mem_of_getElem? (i := 20) (by decide +kernel), List.mem_of_getElem? (i := 568) (by decide +kernel), List.mem_of_getElem? (i := 569) (by decide +kernel)⟩
theorem lw_p8 : lw_okq (⟨"PageFile$PageWriter", "moveTo", "(II)V"⟩, 8) := ⟨⟨by decide +kernel, by decide +kernel⟩, List.mem_of_getElem? (i := 30) (by decide +kernel), List.mem_of_getElem? (i := 582) (by decide +kernel), List.mem_of_getElem? (i := 583) (by decide +kernel)⟩
theorem lw_p9 : lw_okq (⟨"PageFile$PageWriter", "enter", "(LPageFile$Frame;LPageFile$Box;)LPageFile$Frame;"⟩, 8) := ⟨⟨by decide +kernel, by decide +kernel⟩, List.mem_of_getElem? (i := 30) (by decide +kernel), List.mem_of_getElem? (i := 601) (by decide +kernel), List.mem_of_getElem? (i := 602) (by decide +kernel)⟩
theorem lw_p10 : lw_okq (⟨"PageFile$PageWriter", "leave", "(LPageFile$Frame;)LPageFile$Frame;"⟩, 8) := ⟨⟨by decide +kernel, by decide +kernel⟩, List.mem_of_getElem? (i := 30) (by decide +kernel), List.mem_of_getElem? (i := 615) (by decide +kernel), List.mem_of_getElem? (i := 616) (by decide +kernel)⟩
theorem lw_p11 : lw_okq (⟨"PageFile$PageWriter", "writeItem", "(LPageFile$Frame;LPageFile$Item;)LPageFile$Frame;"⟩, 8) := ⟨⟨by decide +kernel, by decide +kernel⟩, List.mem_of_getElem? (i := 30) (by decide +kernel), List.mem_of_getElem? (i := 620) (by decide +kernel), List.mem_of_getElem? (i := 621) (by decide +kernel)⟩
theorem lw_p12 : lw_okq (⟨"PageFile$PageWriter", "writeRule", "(LPageFile$Frame;LPageFile$Item;)V"⟩, 8) := ⟨⟨by decide +kernel, by decide +kernel⟩, List.mem_of_getElem? (i := 30) (by decide +kernel), List.mem_of_getElem? (i := 667) (by decide +kernel), List.mem_of_getElem? (i := 668) (by decide +kernel)⟩
theorem lw_p13 : lw_okq (⟨"PageFile$PageWriter", "writeCharacter", "(LPageFile$Item;)V"⟩, 8) := ⟨⟨by decide +kernel, by decide +kernel⟩, List.mem_of_getElem? (i := 30) (by decide +kernel), List.mem_of_getElem? (i := 671) (by decide +kernel), List.mem_of_getElem? (i := 672) (by decide +kernel)⟩
theorem lw_p14 : lw_okq (⟨"PageFileModel", "isVertical", "()Z"⟩, 34) := ⟨⟨by decide +kernel, by decide +kernel⟩, List.mem_of_getElem? (i := 700) (by decide +kernel), List.mem_of_getElem? (i := 828) (by decide +kernel), List.mem_of_getElem? (i := 829) (by decide +kernel)⟩
theorem lw_p15 : lw_okq (⟨"PageFileModel", "add", "(ZIIIIII)Z"⟩, 34) := ⟨⟨by decide +kernel, by decide +kernel⟩, List.mem_of_getElem? (i := 700) (by decide +kernel), List.mem_of_getElem? (i := 837) (by decide +kernel), List.mem_of_getElem? (i := 838) (by decide +kernel)⟩
def lw_privs_1 : List (MethodName × Nat) := [(⟨"PageFile$OpenList", "measureDown", "(LPageFile$Item;)V"⟩, 10), (⟨"PageFile$OpenList", "measureAcross", "(LPageFile$Item;)V"⟩, 10), (⟨"PageFile", "dropBox", "(I)V"⟩, 12), (⟨"PageFile", "boxOf", "(I)LPageFile$Box;"⟩, 12), (⟨"java/lang/Throwable", "fillInStackTrace", "(I)Ljava/lang/Throwable;"⟩, 6), (⟨"PageFile", "writePage", "(LPageFile$Box;)Z"⟩, 12), (⟨"PageFile", "writeBeginning", "()V"⟩, 12), (⟨"PageFile", "writeUnits", "()V"⟩, 12), (⟨"PageFile$PageWriter", "moveTo", "(II)V"⟩, 8), (⟨"PageFile$PageWriter", "enter", "(LPageFile$Frame;LPageFile$Box;)LPageFile$Frame;"⟩, 8), (⟨"PageFile$PageWriter", "leave", "(LPageFile$Frame;)LPageFile$Frame;"⟩, 8), (⟨"PageFile$PageWriter", "writeItem", "(LPageFile$Frame;LPageFile$Item;)LPageFile$Frame;"⟩, 8), (⟨"PageFile$PageWriter", "writeRule", "(LPageFile$Frame;LPageFile$Item;)V"⟩, 8), (⟨"PageFile$PageWriter", "writeCharacter", "(LPageFile$Item;)V"⟩, 8), (⟨"PageFileModel", "isVertical", "()Z"⟩, 34), (⟨"PageFileModel", "add", "(ZIIIIII)Z"⟩, 34)]
theorem lw_r1 : ∀ q ∈ lw_privs_1, lw_okq q := List.forall_mem_cons.mpr ⟨lw_p0, List.forall_mem_cons.mpr ⟨lw_p1, List.forall_mem_cons.mpr ⟨lw_p2, List.forall_mem_cons.mpr ⟨lw_p3, List.forall_mem_cons.mpr ⟨lw_p4, List.forall_mem_cons.mpr ⟨lw_p5, List.forall_mem_cons.mpr ⟨lw_p6, List.forall_mem_cons.mpr ⟨lw_p7, List.forall_mem_cons.mpr ⟨lw_p8, List.forall_mem_cons.mpr ⟨lw_p9, List.forall_mem_cons.mpr ⟨lw_p10, List.forall_mem_cons.mpr ⟨lw_p11, List.forall_mem_cons.mpr ⟨lw_p12, List.forall_mem_cons.mpr ⟨lw_p13, List.forall_mem_cons.mpr ⟨lw_p14, List.forall_mem_cons.mpr ⟨lw_p15, fun _ h => absurd h List.not_mem_nil⟩⟩⟩⟩⟩⟩⟩⟩⟩⟩⟩⟩⟩⟩⟩⟩
theorem lw_p16 : lw_okq (⟨"PageFileModel", "hasRoom", "(I)Z"⟩, 34) := ⟨⟨by decide +kernel, by decide +kernel⟩, List.mem_of_getElem? (i := 700) (by decide +kernel), List.mem_of_getElem? (i := 841) (by decide +kernel), List.mem_of_getElem? (i := 842) (by decide +kernel)⟩
theorem lw_p17 : lw_okq (⟨"PageFileModel", "shelved", "()I"⟩, 34) := ⟨⟨by decide +kernel, by decide +kernel⟩, List.mem_of_getElem? (i := 700) (by decide +kernel), List.mem_of_getElem? (i := 845) (by decide +kernel), List.mem_of_getElem? (i := 846) (by decide +kernel)⟩
theorem lw_p18 : lw_okq (⟨"PageFileModel", "isBox", "(I)Z"⟩, 34) := ⟨⟨by decide +kernel, by decide +kernel⟩, List.mem_of_getElem? (i := 700) (by decide +kernel), List.mem_of_getElem? (i := 862) (by decide +kernel), List.mem_of_getElem? (i := 863) (by decide +kernel)⟩
theorem lw_p19 : lw_okq (⟨"PageFileModel", "nested", "(II)I"⟩, 34) := ⟨⟨by decide +kernel, by decide +kernel⟩, List.mem_of_getElem? (i := 700) (by decide +kernel), List.mem_of_getElem? (i := 871) (by decide +kernel), List.mem_of_getElem? (i := 872) (by decide +kernel)⟩
theorem lw_p20 : lw_okq (⟨"PageFileModel", "empty", "(I)V"⟩, 34) := ⟨⟨by decide +kernel, by decide +kernel⟩, List.mem_of_getElem? (i := 700) (by decide +kernel), List.mem_of_getElem? (i := 875) (by decide +kernel), List.mem_of_getElem? (i := 876) (by decide +kernel)⟩
theorem lw_p21 : lw_okq (⟨"PageFileModel", "start", "(I)I"⟩, 34) := ⟨⟨by decide +kernel, by decide +kernel⟩, List.mem_of_getElem? (i := 700) (by decide +kernel), List.mem_of_getElem? (i := 879) (by decide +kernel), List.mem_of_getElem? (i := 880) (by decide +kernel)⟩
theorem lw_p22 : lw_okq (⟨"PageFileModel", "move", "(II)V"⟩, 34) := ⟨⟨by decide +kernel, by decide +kernel⟩, List.mem_of_getElem? (i := 700) (by decide +kernel), List.mem_of_getElem? (i := 883) (by decide +kernel), List.mem_of_getElem? (i := 884) (by decide +kernel)⟩
theorem lw_p23 : lw_okq (⟨"PageFileModel", "make", "(II)V"⟩, 34) := ⟨⟨by decide +kernel, by decide +kernel⟩, List.mem_of_getElem? (i := 700) (by decide +kernel), List.mem_of_getElem? (i := 887) (by decide +kernel), List.mem_of_getElem? (i := 888) (by decide +kernel)⟩
theorem lw_p24 : lw_okq (⟨"PageFileModel", "isFull", "(I)Z"⟩, 34) := ⟨⟨by decide +kernel, by decide +kernel⟩, List.mem_of_getElem? (i := 700) (by decide +kernel), List.mem_of_getElem? (i := 895) (by decide +kernel), List.mem_of_getElem? (i := 896) (by decide +kernel)⟩
theorem lw_p25 : lw_okq (⟨"PageFileModel", "placeAll", "(II)V"⟩, 34) := ⟨⟨by decide +kernel, by decide +kernel⟩, List.mem_of_getElem? (i := 700) (by decide +kernel), List.mem_of_getElem? (i := 904) (by decide +kernel), List.mem_of_getElem? (i := 905) (by decide +kernel)⟩
theorem lw_p26 : lw_okq (⟨"PageFileModel", "enter", "(II)V"⟩, 34) := ⟨⟨by decide +kernel, by decide +kernel⟩, List.mem_of_getElem? (i := 700) (by decide +kernel), List.mem_of_getElem? (i := 908) (by decide +kernel), List.mem_of_getElem? (i := 909) (by decide +kernel)⟩
theorem lw_p27 : lw_okq (⟨"PageFileModel", "sized", "(J)V"⟩, 34) := ⟨⟨by decide +kernel, by decide +kernel⟩, List.mem_of_getElem? (i := 700) (by decide +kernel), List.mem_of_getElem? (i := 912) (by decide +kernel), List.mem_of_getElem? (i := 913) (by decide +kernel)⟩
theorem lw_p28 : lw_okq (⟨"PageFileModel", "writeBeginning", "()V"⟩, 34) := ⟨⟨by decide +kernel, by decide +kernel⟩, List.mem_of_getElem? (i := 700) (by decide +kernel), List.mem_of_getElem? (i := 916) (by decide +kernel), List.mem_of_getElem? (i := 917) (by decide +kernel)⟩
theorem lw_p29 : lw_okq (⟨"PageFileModel", "write", "(II)V"⟩, 34) := ⟨⟨by decide +kernel, by decide +kernel⟩, List.mem_of_getElem? (i := 700) (by decide +kernel), List.mem_of_getElem? (i := 920) (by decide +kernel), List.mem_of_getElem? (i := 921) (by decide +kernel)⟩
theorem lw_p30 : lw_okq (⟨"PageFileModel", "writeNumbers", "()V"⟩, 34) := ⟨⟨by decide +kernel, by decide +kernel⟩, List.mem_of_getElem? (i := 700) (by decide +kernel), List.mem_of_getElem? (i := 924) (by decide +kernel), List.mem_of_getElem? (i := 925) (by decide +kernel)⟩
theorem lw_p31 : lw_okq (⟨"PageFileModel", "writeAll", "(II)V"⟩, 34) := ⟨⟨by decide +kernel, by decide +kernel⟩, List.mem_of_getElem? (i := 700) (by decide +kernel), List.mem_of_getElem? (i := 930) (by decide +kernel), List.mem_of_getElem? (i := 931) (by decide +kernel)⟩
def lw_privs_2 : List (MethodName × Nat) := [(⟨"PageFileModel", "hasRoom", "(I)Z"⟩, 34), (⟨"PageFileModel", "shelved", "()I"⟩, 34), (⟨"PageFileModel", "isBox", "(I)Z"⟩, 34), (⟨"PageFileModel", "nested", "(II)I"⟩, 34), (⟨"PageFileModel", "empty", "(I)V"⟩, 34), (⟨"PageFileModel", "start", "(I)I"⟩, 34), (⟨"PageFileModel", "move", "(II)V"⟩, 34), (⟨"PageFileModel", "make", "(II)V"⟩, 34), (⟨"PageFileModel", "isFull", "(I)Z"⟩, 34), (⟨"PageFileModel", "placeAll", "(II)V"⟩, 34), (⟨"PageFileModel", "enter", "(II)V"⟩, 34), (⟨"PageFileModel", "sized", "(J)V"⟩, 34), (⟨"PageFileModel", "writeBeginning", "()V"⟩, 34), (⟨"PageFileModel", "write", "(II)V"⟩, 34), (⟨"PageFileModel", "writeNumbers", "()V"⟩, 34), (⟨"PageFileModel", "writeAll", "(II)V"⟩, 34)]
theorem lw_r2 : ∀ q ∈ lw_privs_2, lw_okq q := List.forall_mem_cons.mpr ⟨lw_p16, List.forall_mem_cons.mpr ⟨lw_p17, List.forall_mem_cons.mpr ⟨lw_p18, List.forall_mem_cons.mpr ⟨lw_p19, List.forall_mem_cons.mpr ⟨lw_p20, List.forall_mem_cons.mpr ⟨lw_p21, List.forall_mem_cons.mpr ⟨lw_p22, List.forall_mem_cons.mpr ⟨lw_p23, List.forall_mem_cons.mpr ⟨lw_p24, List.forall_mem_cons.mpr ⟨lw_p25, List.forall_mem_cons.mpr ⟨lw_p26, List.forall_mem_cons.mpr ⟨lw_p27, List.forall_mem_cons.mpr ⟨lw_p28, List.forall_mem_cons.mpr ⟨lw_p29, List.forall_mem_cons.mpr ⟨lw_p30, List.forall_mem_cons.mpr ⟨lw_p31, fun _ h => absurd h List.not_mem_nil⟩⟩⟩⟩⟩⟩⟩⟩⟩⟩⟩⟩⟩⟩⟩⟩
theorem lw_p32 : lw_okq (⟨"PageFileModel", "leave", "()V"⟩, 34) := ⟨⟨by decide +kernel, by decide +kernel⟩, List.mem_of_getElem? (i := 700) (by decide +kernel), List.mem_of_getElem? (i := 934) (by decide +kernel), List.mem_of_getElem? (i := 935) (by decide +kernel)⟩
theorem lw_p33 : lw_okq (⟨"PageFileModel", "goTo", "(II)V"⟩, 34) := ⟨⟨by decide +kernel, by decide +kernel⟩, List.mem_of_getElem? (i := 700) (by decide +kernel), List.mem_of_getElem? (i := 938) (by decide +kernel), List.mem_of_getElem? (i := 939) (by decide +kernel)⟩
theorem lw_p34 : lw_okq (⟨"PageFileModel", "go", "(II)V"⟩, 34) := ⟨⟨by decide +kernel, by decide +kernel⟩, List.mem_of_getElem? (i := 700) (by decide +kernel), List.mem_of_getElem? (i := 942) (by decide +kernel), List.mem_of_getElem? (i := 943) (by decide +kernel)⟩
theorem lw_p35 : lw_okq (⟨"PageFileModel", "writeCharacter", "(I)V"⟩, 34) := ⟨⟨by decide +kernel, by decide +kernel⟩, List.mem_of_getElem? (i := 700) (by decide +kernel), List.mem_of_getElem? (i := 952) (by decide +kernel), List.mem_of_getElem? (i := 953) (by decide +kernel)⟩
theorem lw_p36 : lw_okq (⟨"PageFileModel", "writeFont", "(I)V"⟩, 34) := ⟨⟨by decide +kernel, by decide +kernel⟩, List.mem_of_getElem? (i := 700) (by decide +kernel), List.mem_of_getElem? (i := 956) (by decide +kernel), List.mem_of_getElem? (i := 957) (by decide +kernel)⟩
theorem lw_p37 : lw_okq (⟨"PageFileModel", "boxOf", "(II)I"⟩, 34) := ⟨⟨by decide +kernel, by decide +kernel⟩, List.mem_of_getElem? (i := 700) (by decide +kernel), List.mem_of_getElem? (i := 960) (by decide +kernel), List.mem_of_getElem? (i := 961) (by decide +kernel)⟩
theorem lw_p38 : lw_okq (⟨"PageFileModel", "writeRule", "(III)V"⟩, 34) := ⟨⟨by decide +kernel, by decide +kernel⟩, List.mem_of_getElem? (i := 700) (by decide +kernel), List.mem_of_getElem? (i := 964) (by decide +kernel), List.mem_of_getElem? (i := 965) (by decide +kernel)⟩
def lw_privs_3 : List (MethodName × Nat) := [(⟨"PageFileModel", "leave", "()V"⟩, 34), (⟨"PageFileModel", "goTo", "(II)V"⟩, 34), (⟨"PageFileModel", "go", "(II)V"⟩, 34), (⟨"PageFileModel", "writeCharacter", "(I)V"⟩, 34), (⟨"PageFileModel", "writeFont", "(I)V"⟩, 34), (⟨"PageFileModel", "boxOf", "(II)I"⟩, 34), (⟨"PageFileModel", "writeRule", "(III)V"⟩, 34)]
theorem lw_r3 : ∀ q ∈ lw_privs_3, lw_okq q := List.forall_mem_cons.mpr ⟨lw_p32, List.forall_mem_cons.mpr ⟨lw_p33, List.forall_mem_cons.mpr ⟨lw_p34, List.forall_mem_cons.mpr ⟨lw_p35, List.forall_mem_cons.mpr ⟨lw_p36, List.forall_mem_cons.mpr ⟨lw_p37, List.forall_mem_cons.mpr ⟨lw_p38, fun _ h => absurd h List.not_mem_nil⟩⟩⟩⟩⟩⟩⟩
def lw_privs : List (MethodName × Nat) := lw_privs_1 ++ (lw_privs_2 ++ (lw_privs_3))
def lw_tbl : List Cond := k2_sels lw_privs ++ tables_1
theorem lw_privs_ok : ∀ q ∈ lw_privs, lw_okq q := by
  show ∀ q ∈ lw_privs_1 ++ (lw_privs_2 ++ (lw_privs_3)), lw_okq q
  exact List.forall_mem_append.mpr ⟨lw_r1, List.forall_mem_append.mpr ⟨lw_r2, lw_r3⟩⟩
end
section
/-! The world as a map from addresses to cells: M a = some e, the cell at a is e. Over the kit's pools. -/
def mg (M : Nat → Option va_E) : Nat → va_E := fun a => (M a).getD (.inr (0, []))
def mw (D : va_G) (cl : List vw_C) (A : Nat → Prop) (M : Nat → Option va_E) (H : Heap) : Prop := ∃ L : List Nat, (∀ a, a ∈ L ↔ M a ≠ none) ∧ va_P D cl (va_pl L (mg M)) H ∧ va_D A (va_pl L (mg M))
def mu (M : Nat → Option va_E) (a : Nat) (e : va_E) : Nat → Option va_E := va_up M a (some e)
theorem mu_self (M : Nat → Option va_E) (a : Nat) (e : va_E) : mu M a e a = some e := va_up_self _ _ _
theorem mu_ne (M : Nat → Option va_E) {a b : Nat} (e : va_E) (h : b ≠ a) : mu M a e b = M b := va_up_ne _ _ h
theorem mg_mu (M : Nat → Option va_E) (a : Nat) (e : va_E) : mg (mu M a e) = va_up (mg M) a e := by
  funext b
  by_cases h : b = a
  · subst h; rw [va_up_self]; unfold mg; rw [mu_self]; rfl
  · rw [va_up_ne _ _ h]; unfold mg; rw [mu_ne _ _ h]
theorem mw_mu {M : Nat → Option va_E} {L : List Nat} {a : Nat} {e : va_E} (hL : ∀ b, b ∈ L ↔ M b ≠ none) (ha : a ∈ L) : ∀ b, b ∈ L ↔ mu M a e b ≠ none := by
  intro b
  by_cases h : b = a
  · subst h; rw [mu_self]; exact ⟨fun _ q => (by cases q), fun _ => ha⟩
  · rw [mu_ne _ _ h]; exact hL b
theorem mw_mu_new {M : Nat → Option va_E} {L : List Nat} {a : Nat} {e : va_E} (hL : ∀ b, b ∈ L ↔ M b ≠ none) : ∀ b, b ∈ L ++ [a] ↔ mu M a e b ≠ none := by
  intro b
  by_cases h : b = a
  · subst h; rw [mu_self]; exact ⟨fun _ q => (by cases q), fun _ => List.mem_append_right _ List.mem_cons_self⟩
  · rw [mu_ne _ _ h, ← hL b]
    constructor
    · intro q
      rcases List.mem_append.mp q with q | q
      · exact q
      · exact absurd (List.mem_singleton.mp q) h
    · exact fun q => List.mem_append_left _ q
theorem mw_in {D : va_G} {cl : List vw_C} {A : Nat → Prop} {M : Nat → Option va_E} {H : Heap} (h : mw D cl A M H) {a : Nat} {e : va_E} (ha : M a = some e) : A a := by
  obtain ⟨L, hL, hP, hD⟩ := h
  obtain ⟨k, hk⟩ := va_pl_get (X := []) (f := mg M) ((hL a).mpr (by rw [ha]; exact fun q => by cases q))
  exact hD.2 k _ hk
theorem mw_lt {D : va_G} {cl : List vw_C} {A : Nat → Prop} {M : Nat → Option va_E} {H : Heap} (h : mw D cl A M H) {a : Nat} {e : va_E} (ha : M a = some e) : a < H.size := by
  obtain ⟨L, hL, hP, hD⟩ := h
  exact va_pl_lt (X := []) hP ((hL a).mpr (by rw [ha]; exact fun q => by cases q))
/-- one cell of the world, as the kit's rows ask for it -/
theorem mw_one {D : va_G} {cl : List vw_C} {A : Nat → Prop} {M : Nat → Option va_E} {H : Heap} (h : mw D cl A M H) {a : Nat} {e : va_E} (ha : M a = some e) : va_P D cl [(a, e)] H := by
  obtain ⟨L, hL, hP, hD⟩ := h
  obtain ⟨k, hk⟩ := va_pl_get (X := []) (f := mg M) ((hL a).mpr (by rw [ha]; exact fun q => by cases q))
  have hk2 : (va_pl L (mg M))[k]? = some (a, e) := by
    have : mg M a = e := by unfold mg; rw [ha]; rfl
    rw [← this]; exact hk
  exact hP.by (fun _ => k) (fun j q hj => by
    match j, hj with
    | 0, hj => cases hj; exact hk2
    | j + 1, hj => simp at hj)
/-- as a list, with the place of one cell -/
theorem mw_open {D : va_G} {cl : List vw_C} {A : Nat → Prop} {M : Nat → Option va_E} {H : Heap} (h : mw D cl A M H) {a : Nat} {e : va_E} (ha : M a = some e) : ∃ (ws : va_W) (k : Nat), va_P D cl ws H ∧ va_D A ws ∧ ws[k]? = some (a, e) ∧ ∀ (e' : va_E) (H1 : Heap), va_P D cl (ws.set k (a, e')) H1 → va_D A (ws.set k (a, e')) → mw D cl A (mu M a e') H1 := by
  obtain ⟨L, hL, hP, hD⟩ := h
  have hm : a ∈ L := (hL a).mpr (by rw [ha]; exact fun q => by cases q)
  obtain ⟨k, hk⟩ := va_pl_get (X := []) (f := mg M) hm
  have hg : mg M a = e := by unfold mg; rw [ha]; rfl
  refine ⟨va_pl L (mg M), k, hP, hD, by rw [← hg]; exact hk, fun e' H1 hP1 hD1 => ⟨L, mw_mu hL hm, ?_, ?_⟩⟩
  · have h2 := va_pl_set (X := []) (f := mg M) (e := e') hD hm hk
    rw [mg_mu, ← (show (va_pl L (mg M)).set k (a, e') = va_pl L (va_up (mg M) a e') from h2)]; exact hP1
  · have h2 := va_pl_set (X := []) (f := mg M) (e := e') hD hm hk
    rw [mg_mu, ← (show (va_pl L (mg M)).set k (a, e') = va_pl L (va_up (mg M) a e') from h2)]; exact hD1
/-- as a list, for a cell to be made -/
theorem mw_open_new {D : va_G} {cl : List vw_C} {A : Nat → Prop} {M : Nat → Option va_E} {H : Heap} (h : mw D cl A M H) : ∃ ws : va_W, va_P D cl ws H ∧ va_D A ws ∧ ∀ (q : Nat) (e' : va_E) (H1 : Heap), va_P D cl (ws ++ [(q, e')]) H1 → va_D A (ws ++ [(q, e')]) → M q = none ∧ mw D cl A (mu M q e') H1 := by
  obtain ⟨L, hL, hP, hD⟩ := h
  refine ⟨va_pl L (mg M), hP, hD, fun q e' H1 hP1 hD1 => ?_⟩
  have hq : q ∉ L := va_pl_fresh2 (X := []) hD1
  refine ⟨Classical.byContradiction fun z => hq ((hL q).mpr z), L ++ [q], mw_mu_new hL, ?_, ?_⟩
  · rw [mg_mu, ← va_pl_push hq]; exact hP1
  · rw [mg_mu, ← va_pl_push hq]; exact hD1
section MW
variable {p : Program} {l : Launch} {e : Env} {R : Room} {s : State} {m : MethodId} {args : Array Value} {below : List Frame} {meth : Method} {c : Code} {H : Heap} {locs : List Loc} {cells slots : Nat} {Q : State → Prop}
variable {cc : ByteArray} {pc : Nat} {ls : Array Slot} {rest : List Value} {D : va_G} {cl : List vw_C} {A : Nat → Prop} {a : Nat} {tys : List (ClassId × FieldType)} {M : Nat → Option va_E} {H0 : Heap} {nL : Nat} {Ts : List Cond} {own : String}
theorem mw_get (S : CallFix p m c cc nL s args Ts own) (hK : va_K D cl tys s) (hM : mw D cl A M H) {C ref : String} {T : u_T} {N ci index : Nat} (hin : ∀ w ∈ u_ws C T N, w ∈ Ts) {fs : List Value} (he : M a = some (.inr (ci, fs))) (hc : cl[ci]? = some (C, T, N)) (k : Nat) (hk : k < N) (hlink : (Cond.fieldLink own index ref (T k).2.1 (T k).2.2.1).before args s = true) (hsame : ∀ x, s.fieldFound? (T k).1 (T k).2.1 (T k).2.2.1 = some x → s.fieldFound? ref (T k).2.1 (T k).2.2.1 = some x) {v : Value} (hv : fs[k]? = some v) (hdg : decode cc pc = .ok (.getfield index, 3))
    (kk : W p l e R s m args below meth c H locs cells slots Q (F0 m (pc + 3) ls (v :: rest))) : W p l e R s m args below meth c H locs cells slots Q (F0 m pc ls (.ref a :: rest)) :=
  va_get S.1 S.2.1 S.2.2.2.2 hin S.2.2.2.1 hK (mw_one hM he) 0 rfl hc k hk hlink hsame hv hdg kk
theorem mw_getN (S : CallFix p m c cc nL s args Ts own) (hK : va_K D cl tys s) (hM : mw D cl A M H) {C ref host : String} {T : u_T} {N ci index : Nat} (hin : ∀ w ∈ u_ws C T N, w ∈ Ts) {fs : List Value} (he : M a = some (.inr (ci, fs))) (hc : cl[ci]? = some (C, T, N)) (k : Nat) (hk : k < N) (hlink : (Cond.fieldLinkNest own index ref (T k).2.1 (T k).2.2.1 host).before args s = true) (hsame : ∀ x, s.fieldFound? (T k).1 (T k).2.1 (T k).2.2.1 = some x → s.fieldFound? ref (T k).2.1 (T k).2.2.1 = some x) {v : Value} (hv : fs[k]? = some v) (hdg : decode cc pc = .ok (.getfield index, 3))
    (kk : W p l e R s m args below meth c H locs cells slots Q (F0 m (pc + 3) ls (v :: rest))) : W p l e R s m args below meth c H locs cells slots Q (F0 m pc ls (.ref a :: rest)) :=
  va_getN S.1 S.2.1 S.2.2.2.2 hin S.2.2.2.1 hK (mw_one hM he) 0 rfl hc k hk hlink hsame hv hdg kk
theorem mw_put (S : CallFix p m c cc nL s args Ts own) (hK : va_K D cl tys s) (hM : mw D cl A M H) (hS : va_S A H0 H locs) {C ref : String} {T : u_T} {N ci index : Nat} (hin : ∀ w ∈ u_ws C T N, w ∈ Ts) (ty0 : Nat → FieldType) (hty : ∀ k, k < N → parseFieldDescriptor (T k).2.2.1 = some (ty0 k)) (hnm : ∀ a, a < N → ∀ b, b < N → a ≠ b → (T a).2.1 ≠ (T b).2.1) {fs : List Value} (he : M a = some (.inr (ci, fs))) (hc : cl[ci]? = some (C, T, N)) (k : Nat) (hk : k < N) (hlink : (Cond.fieldLink own index ref (T k).2.1 (T k).2.2.1).before args s = true) (hsame : ∀ x, s.fieldFound? (T k).1 (T k).2.1 (T k).2.2.1 = some x → s.fieldFound? ref (T k).2.1 (T k).2.2.1 = some x) (hfin : (T k).2.2.2 = false) {ty : FieldType} {v : Value} (hd : parseFieldDescriptor (T k).2.2.1 = some ty) (hn : narrow ty v = v) (hfit : fits ty v = true) (hl : k < fs.length) (hdg : decode cc pc = .ok (.putfield index, 3))
    (kk : ∀ (H1 : Heap) (locs1 : List Loc), mw D cl A (mu M a (.inr (ci, fs.set k v))) H1 → va_S A H0 H1 locs1 → W p l e R s m args below meth c H1 locs1 cells slots Q (F0 m (pc + 3) ls rest)) : W p l e R s m args below meth c H locs cells slots Q (F0 m pc ls (v :: .ref a :: rest)) := by
  obtain ⟨ws, j, hP, hD, hj, hb⟩ := mw_open hM he
  exact va_put S.1 S.2.1 S.2.2.2.2 hin ty0 hty hnm S.2.2.2.1 hK hP hD hS j hj hc k hk hlink hsame hfin hd hn hfit hl hdg (fun H1 locs1 hP1 hD1 hS1 => kk H1 locs1 (hb _ H1 hP1 hD1) hS1)
theorem mw_putF (S : CallFix p m c cc nL s args Ts own) (hK : va_K D cl tys s) (hM : mw D cl A M H) (hS : va_S A H0 H locs) {C ref : String} {T : u_T} {N ci index : Nat} (hin : ∀ w ∈ u_ws C T N, w ∈ Ts) (ty0 : Nat → FieldType) (hty : ∀ k, k < N → parseFieldDescriptor (T k).2.2.1 = some (ty0 k)) (hnm : ∀ a, a < N → ∀ b, b < N → a ≠ b → (T a).2.1 ≠ (T b).2.1) {fs : List Value} (he : M a = some (.inr (ci, fs))) (hc : cl[ci]? = some (C, T, N)) (k : Nat) (hk : k < N) (hlink : (Cond.fieldLink own index ref (T k).2.1 (T k).2.2.1).before args s = true) (hsame : ∀ x, s.fieldFound? (T k).1 (T k).2.1 (T k).2.2.1 = some x → s.fieldFound? ref (T k).2.1 (T k).2.2.1 = some x) (hfin : (T k).2.2.2 = true) (hin2 : meth.name = "<init>") (hdecl : (T k).1 = own) {ty : FieldType} {v : Value} (hd : parseFieldDescriptor (T k).2.2.1 = some ty) (hn : narrow ty v = v) (hfit : fits ty v = true) (hl : k < fs.length) (hdg : decode cc pc = .ok (.putfield index, 3))
    (kk : ∀ (H1 : Heap) (locs1 : List Loc), mw D cl A (mu M a (.inr (ci, fs.set k v))) H1 → va_S A H0 H1 locs1 → W p l e R s m args below meth c H1 locs1 cells slots Q (F0 m (pc + 3) ls rest)) : W p l e R s m args below meth c H locs cells slots Q (F0 m pc ls (v :: .ref a :: rest)) := by
  obtain ⟨ws, j, hP, hD, hj, hb⟩ := mw_open hM he
  exact va_putF S.1 S.2.1 S.2.2.2.2 hin ty0 hty hnm S.2.2.2.1 hK hP hD hS j hj hc k hk hlink hsame hfin hin2 hdecl hd hn hfit hl hdg (fun H1 locs1 hP1 hD1 hS1 => kk H1 locs1 (hb _ H1 hP1 hD1) hS1)
theorem mw_putN (S : CallFix p m c cc nL s args Ts own) (hK : va_K D cl tys s) (hM : mw D cl A M H) (hS : va_S A H0 H locs) {C ref host : String} {T : u_T} {N ci index : Nat} (hin : ∀ w ∈ u_ws C T N, w ∈ Ts) (ty0 : Nat → FieldType) (hty : ∀ k, k < N → parseFieldDescriptor (T k).2.2.1 = some (ty0 k)) (hnm : ∀ a, a < N → ∀ b, b < N → a ≠ b → (T a).2.1 ≠ (T b).2.1) {fs : List Value} (he : M a = some (.inr (ci, fs))) (hc : cl[ci]? = some (C, T, N)) (k : Nat) (hk : k < N) (hlink : (Cond.fieldLinkNest own index ref (T k).2.1 (T k).2.2.1 host).before args s = true) (hsame : ∀ x, s.fieldFound? (T k).1 (T k).2.1 (T k).2.2.1 = some x → s.fieldFound? ref (T k).2.1 (T k).2.2.1 = some x) (hfin : (T k).2.2.2 = false) {ty : FieldType} {v : Value} (hd : parseFieldDescriptor (T k).2.2.1 = some ty) (hn : narrow ty v = v) (hfit : fits ty v = true) (hl : k < fs.length) (hdg : decode cc pc = .ok (.putfield index, 3))
    (kk : ∀ (H1 : Heap) (locs1 : List Loc), mw D cl A (mu M a (.inr (ci, fs.set k v))) H1 → va_S A H0 H1 locs1 → W p l e R s m args below meth c H1 locs1 cells slots Q (F0 m (pc + 3) ls rest)) : W p l e R s m args below meth c H locs cells slots Q (F0 m pc ls (v :: .ref a :: rest)) := by
  obtain ⟨ws, j, hP, hD, hj, hb⟩ := mw_open hM he
  exact va_putN S.1 S.2.1 S.2.2.2.2 hin ty0 hty hnm S.2.2.2.1 hK hP hD hS j hj hc k hk hlink hsame hfin hd hn hfit hl hdg (fun H1 locs1 hP1 hD1 hS1 => kk H1 locs1 (hb _ H1 hP1 hD1) hS1)
theorem mw_iald (S : CallFix p m c cc nL s args Ts own) (hK : va_K D cl tys s) (hM : mw D cl A M H) (t0 : Nat) {cA : ClassId} {n : Nat} {f : Nat → Int32} (ha : M a = some (.inl (cA, n, .inl f))) (ht : tys[t0]? = some (cA, .int)) {i : Int32} (hin : vp_in i n) (hdg : decode cc pc = .ok (.iaload, 1))
    (kk : W p l e R s m args below meth c H locs cells slots Q (F0 m (pc + 1) ls (.int (f i.toNatClampNeg) :: rest))) : W p l e R s m args below meth c H locs cells slots Q (F0 m pc ls (.int i :: .ref a :: rest)) :=
  va_iald S.1 S.2.1 hK (mw_one hM ha) 0 t0 rfl ht hin hdg kk
theorem mw_bald (S : CallFix p m c cc nL s args Ts own) (hK : va_K D cl tys s) (hM : mw D cl A M H) (t0 : Nat) {cA : ClassId} {n : Nat} {f : Nat → Int32} (ha : M a = some (.inl (cA, n, .inl f))) (ht : tys[t0]? = some (cA, .byte)) {i : Int32} (hin : vp_in i n) (hdg : decode cc pc = .ok (.baload, 1))
    (kk : W p l e R s m args below meth c H locs cells slots Q (F0 m (pc + 1) ls (.int (f i.toNatClampNeg) :: rest))) : W p l e R s m args below meth c H locs cells slots Q (F0 m pc ls (.int i :: .ref a :: rest)) :=
  va_bald S.1 S.2.1 hK (mw_one hM ha) 0 t0 rfl ht hin hdg kk
theorem mw_zald (S : CallFix p m c cc nL s args Ts own) (hK : va_K D cl tys s) (hM : mw D cl A M H) (t0 : Nat) {cA : ClassId} {n : Nat} {f : Nat → Int32} (ha : M a = some (.inl (cA, n, .inl f))) (ht : tys[t0]? = some (cA, .boolean)) {i : Int32} (hin : vp_in i n) (hdg : decode cc pc = .ok (.baload, 1))
    (kk : W p l e R s m args below meth c H locs cells slots Q (F0 m (pc + 1) ls (.int (f i.toNatClampNeg) :: rest))) : W p l e R s m args below meth c H locs cells slots Q (F0 m pc ls (.int i :: .ref a :: rest)) :=
  va_zald S.1 S.2.1 hK (mw_one hM ha) 0 t0 rfl ht hin hdg kk
theorem mw_lald (S : CallFix p m c cc nL s args Ts own) (hK : va_K D cl tys s) (hM : mw D cl A M H) (t0 : Nat) {cA : ClassId} {n : Nat} {f : Nat → Int64} (ha : M a = some (.inl (cA, n, .inr (.inl f)))) (ht : tys[t0]? = some (cA, .long)) {i : Int32} (hin : vp_in i n) (hdg : decode cc pc = .ok (.laload, 1))
    (kk : W p l e R s m args below meth c H locs cells slots Q (F0 m (pc + 1) ls (.long (f i.toNatClampNeg) :: rest))) : W p l e R s m args below meth c H locs cells slots Q (F0 m pc ls (.int i :: .ref a :: rest)) :=
  va_lald S.1 S.2.1 hK (mw_one hM ha) 0 t0 rfl ht hin hdg kk
theorem mw_aldq (S : CallFix p m c cc nL s args Ts own) (hK : va_K D cl tys s) (hM : mw D cl A M H) (t0 : Nat) {cA : ClassId} {C : String} {n : Nat} {f : Nat → Option Nat} (ha : M a = some (.inl (cA, n, .inr (.inr (.inr (.inr f)))))) (ht : tys[t0]? = some (cA, .object C)) {i : Int32} (hin : vp_in i n) (hdg : decode cc pc = .ok (.aaload, 1))
    (kk : W p l e R s m args below meth c H locs cells slots Q (F0 m (pc + 1) ls (va_rf (f i.toNatClampNeg) :: rest))) : W p l e R s m args below meth c H locs cells slots Q (F0 m pc ls (.int i :: .ref a :: rest)) :=
  va_aldq S.1 S.2.1 hK (mw_one hM ha) 0 t0 rfl ht hin hdg kk
theorem mw_alen (S : CallFix p m c cc nL s args Ts own) (hK : va_K D cl tys s) (hM : mw D cl A M H) (t0 : Nat) {cA : ClassId} {x : vp_A} (ha : M a = some (.inl (cA, x))) {ty : FieldType} (ht : tys[t0]? = some (cA, ty)) {v : Int32} (hv : Int32.ofNat x.1 = v) (hdg : decode cc pc = .ok (.arraylength, 1))
    (kk : W p l e R s m args below meth c H locs cells slots Q (F0 m (pc + 1) ls (.int v :: rest))) : W p l e R s m args below meth c H locs cells slots Q (F0 m pc ls (.ref a :: rest)) :=
  va_alen S.1 S.2.1 hK (mw_one hM ha) 0 t0 rfl ht hv hdg kk
theorem mw_iast (S : CallFix p m c cc nL s args Ts own) (hK : va_K D cl tys s) (hM : mw D cl A M H) (hS : va_S A H0 H locs) (t0 : Nat) {cA : ClassId} {n : Nat} {f : Nat → Int32} (ha : M a = some (.inl (cA, n, .inl f))) (ht : tys[t0]? = some (cA, .int)) {i : Int32} {x : Int32} (hin : vp_in i n) (hdg : decode cc pc = .ok (.iastore, 1))
    (kk : ∀ (H1 : Heap) (locs1 : List Loc), mw D cl A (mu M a (.inl (cA, n, .inl (upd f i.toNatClampNeg (vp_nar .int x))))) H1 → va_S A H0 H1 locs1 → W p l e R s m args below meth c H1 locs1 cells slots Q (F0 m (pc + 1) ls rest)) : W p l e R s m args below meth c H locs cells slots Q (F0 m pc ls (.int x :: .int i :: .ref a :: rest)) := by
  obtain ⟨ws, j, hP, hD, hj, hb⟩ := mw_open hM ha
  exact va_iast S.1 S.2.1 hK hP hD hS j t0 hj ht hin hdg (fun H1 locs1 hP1 hD1 hS1 => kk H1 locs1 (hb _ H1 hP1 hD1) hS1)
theorem mw_bast (S : CallFix p m c cc nL s args Ts own) (hK : va_K D cl tys s) (hM : mw D cl A M H) (hS : va_S A H0 H locs) (t0 : Nat) {cA : ClassId} {n : Nat} {f : Nat → Int32} (ha : M a = some (.inl (cA, n, .inl f))) (ht : tys[t0]? = some (cA, .byte)) {i : Int32} {x : Int32} (hin : vp_in i n) (hdg : decode cc pc = .ok (.bastore, 1))
    (kk : ∀ (H1 : Heap) (locs1 : List Loc), mw D cl A (mu M a (.inl (cA, n, .inl (upd f i.toNatClampNeg (vp_nar .byte x))))) H1 → va_S A H0 H1 locs1 → W p l e R s m args below meth c H1 locs1 cells slots Q (F0 m (pc + 1) ls rest)) : W p l e R s m args below meth c H locs cells slots Q (F0 m pc ls (.int x :: .int i :: .ref a :: rest)) := by
  obtain ⟨ws, j, hP, hD, hj, hb⟩ := mw_open hM ha
  exact va_bast S.1 S.2.1 hK hP hD hS j t0 hj ht hin hdg (fun H1 locs1 hP1 hD1 hS1 => kk H1 locs1 (hb _ H1 hP1 hD1) hS1)
theorem mw_zast (S : CallFix p m c cc nL s args Ts own) (hK : va_K D cl tys s) (hM : mw D cl A M H) (hS : va_S A H0 H locs) (t0 : Nat) {cA : ClassId} {n : Nat} {f : Nat → Int32} (ha : M a = some (.inl (cA, n, .inl f))) (ht : tys[t0]? = some (cA, .boolean)) {i : Int32} {x : Int32} (hin : vp_in i n) (hdg : decode cc pc = .ok (.bastore, 1))
    (kk : ∀ (H1 : Heap) (locs1 : List Loc), mw D cl A (mu M a (.inl (cA, n, .inl (upd f i.toNatClampNeg (vp_nar .boolean x))))) H1 → va_S A H0 H1 locs1 → W p l e R s m args below meth c H1 locs1 cells slots Q (F0 m (pc + 1) ls rest)) : W p l e R s m args below meth c H locs cells slots Q (F0 m pc ls (.int x :: .int i :: .ref a :: rest)) := by
  obtain ⟨ws, j, hP, hD, hj, hb⟩ := mw_open hM ha
  exact va_zast S.1 S.2.1 hK hP hD hS j t0 hj ht hin hdg (fun H1 locs1 hP1 hD1 hS1 => kk H1 locs1 (hb _ H1 hP1 hD1) hS1)
theorem mw_astqN (S : CallFix p m c cc nL s args Ts own) (hK : va_K D cl tys s) (hM : mw D cl A M H) (hS : va_S A H0 H locs) (t0 : Nat) {cA : ClassId} {C : String} {n : Nat} {f : Nat → Option Nat} (ha : M a = some (.inl (cA, n, .inr (.inr (.inr (.inr f)))))) (ht : tys[t0]? = some (cA, .object C)) {i : Int32} (hin : vp_in i n) (hdg : decode cc pc = .ok (.aastore, 1))
    (kk : ∀ (H1 : Heap) (locs1 : List Loc), mw D cl A (mu M a (.inl (cA, n, .inr (.inr (.inr (.inr (va_up f i.toNatClampNeg none))))))) H1 → va_S A H0 H1 locs1 → W p l e R s m args below meth c H1 locs1 cells slots Q (F0 m (pc + 1) ls rest)) : W p l e R s m args below meth c H locs cells slots Q (F0 m pc ls (.null :: .int i :: .ref a :: rest)) := by
  obtain ⟨ws, j, hP, hD, hj, hb⟩ := mw_open hM ha
  exact va_astqN S.1 S.2.1 hK hP hD hS j t0 hj ht hin hdg (fun H1 locs1 hP1 hD1 hS1 => kk H1 locs1 (hb _ H1 hP1 hD1) hS1)
theorem mw_new (S : CallFix p m c cc nL s args Ts own) (hK : va_K D cl tys s) (hM : mw D cl A M H) (hS : va_S A H0 H locs) (hA : ∀ q, H0.size ≤ q → A q) {C : String} {T : u_T} {N ci index : Nat} (hin : ∀ w ∈ u_ws C T N, w ∈ Ts) (ty : Nat → FieldType) (hty : ∀ k, k < N → parseFieldDescriptor (T k).2.2.1 = some (ty k)) (hcl : (Cond.classLink own index C).before args s = true) (hinst : (Cond.instantiable C N).before args s = true) (hini : (Cond.initialized C).before args s = true) (hc : cl[ci]? = some (C, T, N)) {fs : List Value} (hfs : ∀ j, j < N → defaultValue (ty j) = vp_V fs j) (hcells : cells + 1 ≤ R.cells) (hslots : slots + N ≤ R.slots) (hdg : decode cc pc = .ok (.new index, 3))
    (kk : ∀ (q : Nat) (H1 : Heap), M q = none → mw D cl A (mu M q (.inr (ci, fs))) H1 → va_S A H0 H1 locs → W p l e R s m args below meth c H1 locs (cells + 1) (slots + N) Q (F0 m (pc + 3) ls (.ref q :: rest))) : W p l e R s m args below meth c H locs cells slots Q (F0 m pc ls rest) := by
  obtain ⟨ws, hP, hD, hb⟩ := mw_open_new hM
  exact va_new S.1 S.2.1 S.2.2.2.2 hin ty hty S.2.2.2.1 hcl hinst hini hK hP hD hS hA hc hfs hcells hslots hdg (fun q H1 hP1 hD1 hS1 => kk q H1 (hb q _ H1 hP1 hD1).1 (hb q _ H1 hP1 hD1).2 hS1)
end MW
end
section
def R_PF : String := "PageFile"
def T_PF : u_T := fun k => match k with
  | 0 => ("PageFile", "registers", "[LPageFile$Box;", true)
  | 1 => ("PageFile", "writer", "LPageFile$PageWriter;", true)
  | 2 => ("PageFile", "out", "LPageFile$Bytes;", true)
  | 3 => ("PageFile", "fonts", "LPageFile$Fonts;", true)
  | 4 => ("PageFile", "innermost", "LPageFile$OpenList;", false)
  | 5 => ("PageFile", "items", "I", false)
  | 6 => ("PageFile", "pages", "I", false)
  | 7 => ("PageFile", "lastPage", "I", false)
  | 8 => ("PageFile", "tallest", "I", false)
  | 9 => ("PageFile", "widest", "I", false)
  | 10 => ("PageFile", "deepest", "I", false)
  | _ => ("PageFile", "ended", "Z", false)
def ty_PF : Nat → FieldType := fun k => match k with
  | 0 => .array (.object "PageFile$Box")
  | 1 => .object "PageFile$PageWriter"
  | 2 => .object "PageFile$Bytes"
  | 3 => .object "PageFile$Fonts"
  | 4 => .object "PageFile$OpenList"
  | 5 => .int
  | 6 => .int
  | 7 => .int
  | 8 => .int
  | 9 => .int
  | 10 => .int
  | _ => .boolean
theorem nm_PF : ∀ a, a < 12 → ∀ b, b < 12 → a ≠ b → (T_PF a).2.1 ≠ (T_PF b).2.1 := by decide +kernel
theorem ok_PF : ∀ k, k < 12 → parseFieldDescriptor (T_PF k).2.2.1 = some (ty_PF k) := by decide +kernel
def R_Box : String := "PageFile$Box"
def T_Box : u_T := fun k => match k with
  | 0 => ("PageFile$Box", "vertical", "Z", true)
  | 1 => ("PageFile$Box", "width", "I", true)
  | 2 => ("PageFile$Box", "height", "I", true)
  | 3 => ("PageFile$Box", "depth", "I", true)
  | 4 => ("PageFile$Box", "first", "LPageFile$Item;", true)
  | 5 => ("PageFile$Box", "items", "I", true)
  | _ => ("PageFile$Box", "nested", "I", true)
def ty_Box : Nat → FieldType := fun k => match k with
  | 0 => .boolean
  | 1 => .int
  | 2 => .int
  | 3 => .int
  | 4 => .object "PageFile$Item"
  | 5 => .int
  | _ => .int
theorem nm_Box : ∀ a, a < 7 → ∀ b, b < 7 → a ≠ b → (T_Box a).2.1 ≠ (T_Box b).2.1 := by decide +kernel
theorem ok_Box : ∀ k, k < 7 → parseFieldDescriptor (T_Box k).2.2.1 = some (ty_Box k) := by decide +kernel
def R_Byt : String := "PageFile$Bytes"
def T_Byt : u_T := fun k => match k with
  | 0 => ("PageFile$Bytes", "row", "[B", false)
  | _ => ("PageFile$Bytes", "length", "I", false)
def ty_Byt : Nat → FieldType := fun k => match k with
  | 0 => .array (.byte)
  | _ => .int
theorem nm_Byt : ∀ a, a < 2 → ∀ b, b < 2 → a ≠ b → (T_Byt a).2.1 ≠ (T_Byt b).2.1 := by decide +kernel
theorem ok_Byt : ∀ k, k < 2 → parseFieldDescriptor (T_Byt k).2.2.1 = some (ty_Byt k) := by decide +kernel
def R_Fon : String := "PageFile$Fonts"
def T_Fon : u_T := fun k => match k with
  | 0 => ("PageFile$Fonts", "sizes", "[I", true)
  | 1 => ("PageFile$Fonts", "designs", "[I", true)
  | _ => ("PageFile$Fonts", "used", "I", false)
def ty_Fon : Nat → FieldType := fun k => match k with
  | 0 => .array (.int)
  | 1 => .array (.int)
  | _ => .int
theorem nm_Fon : ∀ a, a < 3 → ∀ b, b < 3 → a ≠ b → (T_Fon a).2.1 ≠ (T_Fon b).2.1 := by decide +kernel
theorem ok_Fon : ∀ k, k < 3 → parseFieldDescriptor (T_Fon k).2.2.1 = some (ty_Fon k) := by decide +kernel
def R_Fra : String := "PageFile$Frame"
def T_Fra : u_T := fun k => match k with
  | 0 => ("PageFile$Frame", "outer", "LPageFile$Frame;", true)
  | 1 => ("PageFile$Frame", "level", "I", true)
  | 2 => ("PageFile$Frame", "savedAcross", "LPageFile$Track;", true)
  | 3 => ("PageFile$Frame", "savedDown", "LPageFile$Track;", true)
  | 4 => ("PageFile$Frame", "inner", "LPageFile$Frame;", false)
  | 5 => ("PageFile$Frame", "vertical", "Z", false)
  | 6 => ("PageFile$Frame", "width", "I", false)
  | 7 => ("PageFile$Frame", "height", "I", false)
  | 8 => ("PageFile$Frame", "depth", "I", false)
  | 9 => ("PageFile$Frame", "left", "I", false)
  | 10 => ("PageFile$Frame", "base", "I", false)
  | 11 => ("PageFile$Frame", "at", "I", false)
  | _ => ("PageFile$Frame", "next", "LPageFile$Item;", false)
def ty_Fra : Nat → FieldType := fun k => match k with
  | 0 => .object "PageFile$Frame"
  | 1 => .int
  | 2 => .object "PageFile$Track"
  | 3 => .object "PageFile$Track"
  | 4 => .object "PageFile$Frame"
  | 5 => .boolean
  | 6 => .int
  | 7 => .int
  | 8 => .int
  | 9 => .int
  | 10 => .int
  | 11 => .int
  | _ => .object "PageFile$Item"
theorem nm_Fra : ∀ a, a < 13 → ∀ b, b < 13 → a ≠ b → (T_Fra a).2.1 ≠ (T_Fra b).2.1 := by decide +kernel
theorem ok_Fra : ∀ k, k < 13 → parseFieldDescriptor (T_Fra k).2.2.1 = some (ty_Fra k) := by decide +kernel
def R_Itm : String := "PageFile$Item"
def T_Itm : u_T := fun k => match k with
  | 0 => ("PageFile$Item", "kind", "I", true)
  | 1 => ("PageFile$Item", "width", "I", true)
  | 2 => ("PageFile$Item", "height", "I", true)
  | 3 => ("PageFile$Item", "depth", "I", true)
  | 4 => ("PageFile$Item", "font", "I", false)
  | 5 => ("PageFile$Item", "code", "I", false)
  | 6 => ("PageFile$Item", "running", "I", false)
  | 7 => ("PageFile$Item", "shift", "I", false)
  | 8 => ("PageFile$Item", "box", "LPageFile$Box;", false)
  | _ => ("PageFile$Item", "next", "LPageFile$Item;", false)
def ty_Itm : Nat → FieldType := fun k => match k with
  | 0 => .int
  | 1 => .int
  | 2 => .int
  | 3 => .int
  | 4 => .int
  | 5 => .int
  | 6 => .int
  | 7 => .int
  | 8 => .object "PageFile$Box"
  | _ => .object "PageFile$Item"
theorem nm_Itm : ∀ a, a < 10 → ∀ b, b < 10 → a ≠ b → (T_Itm a).2.1 ≠ (T_Itm b).2.1 := by decide +kernel
theorem ok_Itm : ∀ k, k < 10 → parseFieldDescriptor (T_Itm k).2.2.1 = some (ty_Itm k) := by decide +kernel
def R_OpL : String := "PageFile$OpenList"
def T_OpL : u_T := fun k => match k with
  | 0 => ("PageFile$OpenList", "vertical", "Z", true)
  | 1 => ("PageFile$OpenList", "outer", "LPageFile$OpenList;", true)
  | 2 => ("PageFile$OpenList", "level", "I", true)
  | 3 => ("PageFile$OpenList", "first", "LPageFile$Item;", false)
  | 4 => ("PageFile$OpenList", "last", "LPageFile$Item;", false)
  | 5 => ("PageFile$OpenList", "items", "I", false)
  | 6 => ("PageFile$OpenList", "nested", "I", false)
  | 7 => ("PageFile$OpenList", "width", "J", false)
  | 8 => ("PageFile$OpenList", "height", "J", false)
  | _ => ("PageFile$OpenList", "depth", "J", false)
def ty_OpL : Nat → FieldType := fun k => match k with
  | 0 => .boolean
  | 1 => .object "PageFile$OpenList"
  | 2 => .int
  | 3 => .object "PageFile$Item"
  | 4 => .object "PageFile$Item"
  | 5 => .int
  | 6 => .int
  | 7 => .long
  | 8 => .long
  | _ => .long
theorem nm_OpL : ∀ a, a < 10 → ∀ b, b < 10 → a ≠ b → (T_OpL a).2.1 ≠ (T_OpL b).2.1 := by decide +kernel
theorem ok_OpL : ∀ k, k < 10 → parseFieldDescriptor (T_OpL k).2.2.1 = some (ty_OpL k) := by decide +kernel
def R_PgW : String := "PageFile$PageWriter"
def T_PgW : u_T := fun k => match k with
  | 0 => ("PageFile$PageWriter", "out", "LPageFile$Bytes;", true)
  | 1 => ("PageFile$PageWriter", "fonts", "LPageFile$Fonts;", true)
  | 2 => ("PageFile$PageWriter", "across", "LPageFile$Track;", true)
  | 3 => ("PageFile$PageWriter", "down", "LPageFile$Track;", true)
  | 4 => ("PageFile$PageWriter", "outermost", "LPageFile$Frame;", true)
  | 5 => ("PageFile$PageWriter", "lastFont", "I", false)
  | 6 => ("PageFile$PageWriter", "deepest", "I", false)
  | _ => ("PageFile$PageWriter", "failed", "Z", false)
def ty_PgW : Nat → FieldType := fun k => match k with
  | 0 => .object "PageFile$Bytes"
  | 1 => .object "PageFile$Fonts"
  | 2 => .object "PageFile$Track"
  | 3 => .object "PageFile$Track"
  | 4 => .object "PageFile$Frame"
  | 5 => .int
  | 6 => .int
  | _ => .boolean
theorem nm_PgW : ∀ a, a < 8 → ∀ b, b < 8 → a ≠ b → (T_PgW a).2.1 ≠ (T_PgW b).2.1 := by decide +kernel
theorem ok_PgW : ∀ k, k < 8 → parseFieldDescriptor (T_PgW k).2.2.1 = some (ty_PgW k) := by decide +kernel
def R_Trk : String := "PageFile$Track"
def T_Trk : u_T := fun k => match k with
  | 0 => ("PageFile$Track", "command", "I", true)
  | 1 => ("PageFile$Track", "place", "I", false)
  | 2 => ("PageFile$Track", "first", "I", false)
  | 3 => ("PageFile$Track", "second", "I", false)
  | _ => ("PageFile$Track", "secondIsOlder", "Z", false)
def ty_Trk : Nat → FieldType := fun k => match k with
  | 0 => .int
  | 1 => .int
  | 2 => .int
  | 3 => .int
  | _ => .boolean
theorem nm_Trk : ∀ a, a < 5 → ∀ b, b < 5 → a ≠ b → (T_Trk a).2.1 ≠ (T_Trk b).2.1 := by decide +kernel
theorem ok_Trk : ∀ k, k < 5 → parseFieldDescriptor (T_Trk k).2.2.1 = some (ty_Trk k) := by decide +kernel
def R_Mod : String := "PageFileModel"
def T_Mod : u_T := fun k => match k with
  | 0 => ("PageFileModel", "thrown", "I", false)
  | 1 => ("PageFileModel", "kind", "[I", true)
  | 2 => ("PageFileModel", "wide", "[I", true)
  | 3 => ("PageFileModel", "high", "[I", true)
  | 4 => ("PageFileModel", "deep", "[I", true)
  | 5 => ("PageFileModel", "shift", "[I", true)
  | 6 => ("PageFileModel", "code", "[I", true)
  | 7 => ("PageFileModel", "span", "[I", true)
  | 8 => ("PageFileModel", "lists", "I", false)
  | 9 => ("PageFileModel", "begin", "[I", true)
  | 10 => ("PageFileModel", "vertical", "[Z", true)
  | 11 => ("PageFileModel", "end", "I", false)
  | 12 => ("PageFileModel", "size", "[I", true)
  | 13 => ("PageFileModel", "fontSize", "[I", true)
  | 14 => ("PageFileModel", "fontDesign", "[I", true)
  | 15 => ("PageFileModel", "used", "[Z", true)
  | 16 => ("PageFileModel", "usedBefore", "[Z", true)
  | 17 => ("PageFileModel", "file", "[B", true)
  | 18 => ("PageFileModel", "length", "I", false)
  | 19 => ("PageFileModel", "ended", "Z", false)
  | 20 => ("PageFileModel", "pages", "I", false)
  | 21 => ("PageFileModel", "lastPage", "I", false)
  | 22 => ("PageFileModel", "tallest", "J", false)
  | 23 => ("PageFileModel", "broadest", "I", false)
  | 24 => ("PageFileModel", "deepest", "I", false)
  | 25 => ("PageFileModel", "right", "[I", true)
  | 26 => ("PageFileModel", "down", "[I", true)
  | 27 => ("PageFileModel", "open", "I", false)
  | 28 => ("PageFileModel", "until", "[I", true)
  | 29 => ("PageFileModel", "at", "[J", true)
  | 30 => ("PageFileModel", "keep", "[I", true)
  | 31 => ("PageFileModel", "now", "[I", true)
  | 32 => ("PageFileModel", "fontNow", "I", false)
  | _ => ("PageFileModel", "good", "Z", false)
def ty_Mod : Nat → FieldType := fun k => match k with
  | 0 => .int
  | 1 => .array (.int)
  | 2 => .array (.int)
  | 3 => .array (.int)
  | 4 => .array (.int)
  | 5 => .array (.int)
  | 6 => .array (.int)
  | 7 => .array (.int)
  | 8 => .int
  | 9 => .array (.int)
  | 10 => .array (.boolean)
  | 11 => .int
  | 12 => .array (.int)
  | 13 => .array (.int)
  | 14 => .array (.int)
  | 15 => .array (.boolean)
  | 16 => .array (.boolean)
  | 17 => .array (.byte)
  | 18 => .int
  | 19 => .boolean
  | 20 => .int
  | 21 => .int
  | 22 => .long
  | 23 => .int
  | 24 => .int
  | 25 => .array (.int)
  | 26 => .array (.int)
  | 27 => .int
  | 28 => .array (.int)
  | 29 => .array (.long)
  | 30 => .array (.int)
  | 31 => .array (.int)
  | 32 => .int
  | _ => .boolean
theorem nm_Mod : ∀ a, a < 34 → ∀ b, b < 34 → a ≠ b → (T_Mod a).2.1 ≠ (T_Mod b).2.1 := by decide +kernel
theorem ok_Mod : ∀ k, k < 34 → parseFieldDescriptor (T_Mod k).2.2.1 = some (ty_Mod k) := by decide +kernel
def R_Law : String := "PageFileLaw"
/-- the classes whose objects the worlds hold -/
abbrev cls : List vw_C := [(R_PF, T_PF, 12), (R_Box, T_Box, 7), (R_Byt, T_Byt, 2), (R_Fon, T_Fon, 3), (R_Fra, T_Fra, 13), (R_Itm, T_Itm, 10), (R_OpL, T_OpL, 10), (R_PgW, T_PgW, 8), (R_Trk, T_Trk, 5), (R_Mod, T_Mod, 34)]
/-- the words of the tables that last (every method may use them), and the nest mates' links -/
def gw : List Cond := lw_tbl.filter goodWord
def nest_w : Cond → Bool
  | .fieldLinkNest .. => true
  | .methodLinkNest .. => true
  | .arrayOver (.object _) => true
  | _ => false
def nw : List Cond := lw_tbl.filter nest_w
theorem gw_in {w : Cond} (i : Nat) (h : tables_1[i]? = some w) (hg : goodWord w = true) : w ∈ gw := List.mem_filter.mpr ⟨List.mem_append_right _ (List.mem_of_getElem? h), hg⟩
theorem gw_sel {w : Cond} (i : Nat) (h : (k2_sels lw_privs)[i]? = some w) (hg : goodWord w = true) : w ∈ gw := List.mem_filter.mpr ⟨List.mem_append_left _ (List.mem_of_getElem? h), hg⟩
theorem nw_in {w : Cond} (i : Nat) (h : tables_1[i]? = some w) (hg : nest_w w = true) : w ∈ nw := List.mem_filter.mpr ⟨List.mem_append_right _ (List.mem_of_getElem? h), hg⟩
theorem gw_good {w : Cond} (h : w ∈ gw) : (w.onTables && w.keeps) = true ∨ ∃ ty, w = .arrayClass ty := good_of_word (List.mem_filter.mp h).2
theorem gw_tbl {w : Cond} (h : w ∈ gw) : w ∈ lw_tbl := (List.mem_filter.mp h).1
theorem i_PF : ∀ w ∈ u_ws R_PF T_PF 12, w ∈ gw := fun w h => List.mem_filter.mpr ⟨List.mem_append_right _ ((show ∀ w ∈ u_ws R_PF T_PF 12, w ∈ tables_1 by decide +kernel) w h), (show ∀ w ∈ u_ws R_PF T_PF 12, goodWord w = true by decide +kernel) w h⟩
theorem i_Box : ∀ w ∈ u_ws R_Box T_Box 7, w ∈ gw := fun w h => List.mem_filter.mpr ⟨List.mem_append_right _ ((show ∀ w ∈ u_ws R_Box T_Box 7, w ∈ tables_1 by decide +kernel) w h), (show ∀ w ∈ u_ws R_Box T_Box 7, goodWord w = true by decide +kernel) w h⟩
theorem i_Byt : ∀ w ∈ u_ws R_Byt T_Byt 2, w ∈ gw := fun w h => List.mem_filter.mpr ⟨List.mem_append_right _ ((show ∀ w ∈ u_ws R_Byt T_Byt 2, w ∈ tables_1 by decide +kernel) w h), (show ∀ w ∈ u_ws R_Byt T_Byt 2, goodWord w = true by decide +kernel) w h⟩
theorem i_Fon : ∀ w ∈ u_ws R_Fon T_Fon 3, w ∈ gw := fun w h => List.mem_filter.mpr ⟨List.mem_append_right _ ((show ∀ w ∈ u_ws R_Fon T_Fon 3, w ∈ tables_1 by decide +kernel) w h), (show ∀ w ∈ u_ws R_Fon T_Fon 3, goodWord w = true by decide +kernel) w h⟩
theorem i_Fra : ∀ w ∈ u_ws R_Fra T_Fra 13, w ∈ gw := fun w h => List.mem_filter.mpr ⟨List.mem_append_right _ ((show ∀ w ∈ u_ws R_Fra T_Fra 13, w ∈ tables_1 by decide +kernel) w h), (show ∀ w ∈ u_ws R_Fra T_Fra 13, goodWord w = true by decide +kernel) w h⟩
theorem i_Itm : ∀ w ∈ u_ws R_Itm T_Itm 10, w ∈ gw := fun w h => List.mem_filter.mpr ⟨List.mem_append_right _ ((show ∀ w ∈ u_ws R_Itm T_Itm 10, w ∈ tables_1 by decide +kernel) w h), (show ∀ w ∈ u_ws R_Itm T_Itm 10, goodWord w = true by decide +kernel) w h⟩
theorem i_OpL : ∀ w ∈ u_ws R_OpL T_OpL 10, w ∈ gw := fun w h => List.mem_filter.mpr ⟨List.mem_append_right _ ((show ∀ w ∈ u_ws R_OpL T_OpL 10, w ∈ tables_1 by decide +kernel) w h), (show ∀ w ∈ u_ws R_OpL T_OpL 10, goodWord w = true by decide +kernel) w h⟩
theorem i_PgW : ∀ w ∈ u_ws R_PgW T_PgW 8, w ∈ gw := fun w h => List.mem_filter.mpr ⟨List.mem_append_right _ ((show ∀ w ∈ u_ws R_PgW T_PgW 8, w ∈ tables_1 by decide +kernel) w h), (show ∀ w ∈ u_ws R_PgW T_PgW 8, goodWord w = true by decide +kernel) w h⟩
theorem i_Trk : ∀ w ∈ u_ws R_Trk T_Trk 5, w ∈ gw := fun w h => List.mem_filter.mpr ⟨List.mem_append_right _ ((show ∀ w ∈ u_ws R_Trk T_Trk 5, w ∈ tables_1 by decide +kernel) w h), (show ∀ w ∈ u_ws R_Trk T_Trk 5, goodWord w = true by decide +kernel) w h⟩
theorem i_Mod : ∀ w ∈ u_ws R_Mod T_Mod 34, w ∈ gw := fun w h => List.mem_filter.mpr ⟨List.mem_append_right _ ((show ∀ w ∈ u_ws R_Mod T_Mod 34, w ∈ tables_1 by decide +kernel) w h), (show ∀ w ∈ u_ws R_Mod T_Mod 34, goodWord w = true by decide +kernel) w h⟩
end
section
/-! A method as its walk needs it: name, code, locals, what it returns, the frames and the locals' words that its own calls need. V: from here the method comes to its end with Q of its answer and of the world; at most k cells of n slots come. -/
abbrev MT : Type := MethodName × ByteArray × Nat × Option FieldType × Nat × Nat
abbrev MP : Type := Nat → Option va_E
abbrev TY : Type := List (ClassId × FieldType)
def mt_ws (t : MT) : List Cond := .code t.1 t.2.1 t.2.2.1 t.2.2.2.1 :: gw
def mt_rm (t : MT) (k n : Nat) : Room := { frames := t.2.2.2.2.1, cells := k, slots := n, locals := t.2.2.2.2.2 }
def KK (D : va_G) (tys : TY) (U : State) : Prop := va_K D cls tys U ∧ ∀ w ∈ nw, va_Nw w U
theorem KK_warm {D : va_G} {tys : TY} {s U : State} (hW : s.WarmedH U.vm) (h : KK D tys s) : KK D tys U := by
  refine ⟨va_K.moved hW.alike h.1, fun w hw => ?_⟩
  have h2 := (List.mem_filter.mp hw).2
  have h3 := h.2 w hw
  cases w <;> first | exact va_Nw.warmF hW h3 | exact va_Nw.warmM hW h3 | exact (Bool.false_ne_true h2).elim | (rename_i ty; cases ty <;> first | exact va_AO.moved hW.alike h3 | exact (Bool.false_ne_true h2).elim)
theorem KK_call {D : va_G} {tys : TY} {U : State} {g : JFrame} {mk : MethodId} {a : Array Value} (h : KK D tys U) : KK D tys (U.calling g mk a) := by
  refine ⟨va_K.moved (u := U) (U := U.calling g mk a) (Vm.Alike.refl U.vm) h.1, fun w hw => ?_⟩
  have h2 := (List.mem_filter.mp hw).2
  have h3 := h.2 w hw
  cases w <;> first | exact (Bool.false_ne_true h2).elim | exact va_Nw.same rfl rfl h3 | (rename_i ty; cases ty <;> first | exact va_AO.moved (u := U) (U := U.calling g mk a) (Vm.Alike.refl U.vm) h3 | exact (Bool.false_ne_true h2).elim)
def PreM (D : va_G) (tys : TY) (A : Nat → Prop) (M : MP) (U : State) : Prop := (∀ q, U.heap.size ≤ q → A q) ∧ mw D cls A M U.heap ∧ KK D tys U
def QcM (D : va_G) (A : Nat → Prop) (Q : Option Value → MP → Prop) : Array Value → State → Outcome → State → Prop := fun _ st oc t => (∃ (r : Option Value) (M' : MP), oc = .returned r ∧ Q r M' ∧ mw D cls A M' t.heap) ∧ va_F A st t
/-- the contract: from every world M (with A all that may change) the method returns, Q of its answer and of the new world; k cells of n slots at most -/
def Ct (l : Launch) (D : va_G) (tys : TY) (t : MT) (k n : Nat) (av : List Value) (M : MP) (Q : Option Value → MP → Prop) : Prop := ∀ A : Nat → Prop, Met l t.1 (mt_ws t) (mt_rm t k n) (va_Pc av (PreM D tys A M)) (QcM D A Q) k n A
def Cx (D : va_G) (tys : TY) (t : MT) (A : Nat → Prop) (p : Program) (s : State) (m : MethodId) (args : Array Value) (meth : Method) (c : Code) : Prop :=
  CallFix p m c t.2.1 t.2.2.1 s args (mt_ws t) t.1.cls ∧ meth.sig.returnType = t.2.2.2.1 ∧ meth.locks = false ∧ meth.name = t.1.name ∧ KK D tys s ∧ ∀ q, s.heap.size ≤ q → A q
def V (l : Launch) (D : va_G) (tys : TY) (t : MT) (k n : Nat) (pc : Nat) (lv : List (Nat × Value)) (st : List Value) (M : MP) (Q : Option Value → MP → Prop) : Prop :=
  ∀ (A : Nat → Prop) (p : Program) (e : Env) (s : State) (m : MethodId) (args : Array Value) (below : List Frame) (meth : Method) (c : Code), Cx D tys t A p s m args meth c →
    ∀ (k0 n0 : Nat) (H : Heap) (locs : List Loc) (cells slots : Nat) (ls : Array Slot), mw D cls A M H → va_S A s.heap H locs → lv_has ls t.2.2.1 lv → cells + k ≤ k0 → slots + n ≤ n0 →
      W p l e (mt_rm t k0 n0) s m args below meth c H locs cells slots (MQ below (QcM D A Q) args s k0 n0 A) (F0 m pc ls st)
theorem Ct_of {l : Launch} {D : va_G} {tys : TY} {t : MT} {k n : Nat} {av : List Value} {M : MP} {Q : Option Value → MP → Prop} (hpl : plainName t.1.cls = true) (hlen : (lg_sl av).length ≤ t.2.2.1) (h : V l D tys t k n 0 (lv_args 0 av) [] M Q) : Ct l D tys t k n av M Q := by
  intro A
  refine Met.ofW (cc := t.2.1) (maxL := t.2.2.1) (ret := t.2.2.2.1) hpl rfl ?_
  intro p e s m args below meth c s₁ B hml hv
  obtain ⟨rfl, hA, hM, hK⟩ := hv
  rw [lg_entry_eq]
  exact h A p e s m _ below meth c ⟨⟨B.exec, B.bytes, hml, findClass_of_methodNamed B.named, atoms_spec (ws := mt_ws t) B.pre⟩, B.returns, B.notSynchronized, (name_of_methodNamed B.named B.method).1, hK, hA⟩ k n s.heap [] 0 0 _ hM va_S.rf (lv_entry av hlen) (by omega) (by omega)
theorem Ct_mono {l : Launch} {D : va_G} {tys : TY} {t : MT} {k n : Nat} {av : List Value} {M : MP} {Q Q' : Option Value → MP → Prop} (h : Ct l D tys t k n av M Q) (hq : ∀ r M', Q r M' → Q' r M') : Ct l D tys t k n av M Q' := by
  intro A p e ha hc hk s m args below hf happ hP hT
  obtain ⟨u, o, h1, h2, h3, h4⟩ := h A p e ha hc hk s m args below hf happ hP hT
  obtain ⟨⟨⟨r, M', e1, e2, e3⟩, e4⟩, e5⟩ := h4
  exact ⟨u, o, h1, h2, h3, ⟨⟨r, M', e1, hq r M' e2, e3⟩, e4⟩, e5⟩
theorem gw_ts {t : MT} {args : Array Value} {s : State} (h : ∀ w ∈ mt_ws t, w.before args s = true) {w : Cond} (hw : w ∈ gw) : w.before args s = true := h w (List.mem_cons_of_mem _ hw)
theorem gw_sub {t : MT} {ws : List Cond} (h : ∀ w ∈ ws, w ∈ gw) : ∀ w ∈ ws, w ∈ mt_ws t := fun w hw => List.mem_cons_of_mem _ (h w hw)
theorem lv_look {ls : Array Slot} {nL : Nat} {lv : List (Nat × Value)} (h : lv_has ls nL lv) {i : Nat} {v : Value} (hl : lv.lookup i = some v) : ls[i]? = some (.val v) := by
  refine h.2.2 (i, v) ?_
  clear h
  induction lv with
  | nil => cases hl
  | cons q lv ih =>
    obtain ⟨j, w⟩ := q
    by_cases hj : i = j
    · subst hj
      rw [List.lookup_cons_self] at hl
      cases hl
      exact List.mem_cons_self
    · have hb : (i == j) = false := beq_eq_false_iff_ne.mpr hj
      rw [List.lookup_cons, hb] at hl
      exact List.mem_cons_of_mem _ (ih hl)
/-- a reference or null -/
def isr (v : Value) : Prop := v = .null ∨ ∃ a, v = .ref a
theorem isr_rf (r : Option Nat) : isr (va_rf r) := va_rf_or r
theorem isr_ref (a : Nat) : isr (.ref a) := Or.inr ⟨a, rfl⟩
theorem isr_null : isr .null := Or.inl rfl
section VV
variable {l : Launch} {D : va_G} {tys : TY} {t : MT} {k n pc : Nat} {lv : List (Nat × Value)} {st : List Value} {M : MP} {Q : Option Value → MP → Prop}
theorem V_iadd {x y : Int32} (hd : decode t.2.1 pc = .ok (.iadd, 1)) (h : V l D tys t k n (pc + 1) lv (.int (x + y) :: st) M Q) : V l D tys t k n pc lv (.int y :: .int x :: st) M Q := fun A p e s m args below meth c C k0 n0 H locs cells slots ls hM hS hl hk hn => lv_iadd C.1.1 C.1.2.1 hd (h A p e s m args below meth c C k0 n0 H locs cells slots ls hM hS hl hk hn)
theorem V_isub {x y : Int32} (hd : decode t.2.1 pc = .ok (.isub, 1)) (h : V l D tys t k n (pc + 1) lv (.int (x - y) :: st) M Q) : V l D tys t k n pc lv (.int y :: .int x :: st) M Q := fun A p e s m args below meth c C k0 n0 H locs cells slots ls hM hS hl hk hn => lv_isub C.1.1 C.1.2.1 hd (h A p e s m args below meth c C k0 n0 H locs cells slots ls hM hS hl hk hn)
theorem V_imul {x y : Int32} (hd : decode t.2.1 pc = .ok (.imul, 1)) (h : V l D tys t k n (pc + 1) lv (.int (x * y) :: st) M Q) : V l D tys t k n pc lv (.int y :: .int x :: st) M Q := fun A p e s m args below meth c C k0 n0 H locs cells slots ls hM hS hl hk hn => lv_imul C.1.1 C.1.2.1 hd (h A p e s m args below meth c C k0 n0 H locs cells slots ls hM hS hl hk hn)
theorem V_iand {x y : Int32} (hd : decode t.2.1 pc = .ok (.iand, 1)) (h : V l D tys t k n (pc + 1) lv (.int (x &&& y) :: st) M Q) : V l D tys t k n pc lv (.int y :: .int x :: st) M Q := fun A p e s m args below meth c C k0 n0 H locs cells slots ls hM hS hl hk hn => lv_iand C.1.1 C.1.2.1 hd (h A p e s m args below meth c C k0 n0 H locs cells slots ls hM hS hl hk hn)
theorem V_ior {x y : Int32} (hd : decode t.2.1 pc = .ok (.ior, 1)) (h : V l D tys t k n (pc + 1) lv (.int (x ||| y) :: st) M Q) : V l D tys t k n pc lv (.int y :: .int x :: st) M Q := fun A p e s m args below meth c C k0 n0 H locs cells slots ls hM hS hl hk hn => lv_ior C.1.1 C.1.2.1 hd (h A p e s m args below meth c C k0 n0 H locs cells slots ls hM hS hl hk hn)
theorem V_ixor {x y : Int32} (hd : decode t.2.1 pc = .ok (.ixor, 1)) (h : V l D tys t k n (pc + 1) lv (.int (x ^^^ y) :: st) M Q) : V l D tys t k n pc lv (.int y :: .int x :: st) M Q := fun A p e s m args below meth c C k0 n0 H locs cells slots ls hM hS hl hk hn => lv_ixor C.1.1 C.1.2.1 hd (h A p e s m args below meth c C k0 n0 H locs cells slots ls hM hS hl hk hn)
theorem V_ishl {x y : Int32} (hd : decode t.2.1 pc = .ok (.ishl, 1)) (h : V l D tys t k n (pc + 1) lv (.int (x <<< (y &&& 31)) :: st) M Q) : V l D tys t k n pc lv (.int y :: .int x :: st) M Q := fun A p e s m args below meth c C k0 n0 H locs cells slots ls hM hS hl hk hn => lv_ishl C.1.1 C.1.2.1 hd (h A p e s m args below meth c C k0 n0 H locs cells slots ls hM hS hl hk hn)
theorem V_ishr {x y : Int32} (hd : decode t.2.1 pc = .ok (.ishr, 1)) (h : V l D tys t k n (pc + 1) lv (.int (x >>> (y &&& 31)) :: st) M Q) : V l D tys t k n pc lv (.int y :: .int x :: st) M Q := fun A p e s m args below meth c C k0 n0 H locs cells slots ls hM hS hl hk hn => lv_ishr C.1.1 C.1.2.1 hd (h A p e s m args below meth c C k0 n0 H locs cells slots ls hM hS hl hk hn)
theorem V_ladd {x y : Int64} (hd : decode t.2.1 pc = .ok (.ladd, 1)) (h : V l D tys t k n (pc + 1) lv (.long (x + y) :: st) M Q) : V l D tys t k n pc lv (.long y :: .long x :: st) M Q := fun A p e s m args below meth c C k0 n0 H locs cells slots ls hM hS hl hk hn => lv_ladd C.1.1 C.1.2.1 hd (h A p e s m args below meth c C k0 n0 H locs cells slots ls hM hS hl hk hn)
theorem V_lsub {x y : Int64} (hd : decode t.2.1 pc = .ok (.lsub, 1)) (h : V l D tys t k n (pc + 1) lv (.long (x - y) :: st) M Q) : V l D tys t k n pc lv (.long y :: .long x :: st) M Q := fun A p e s m args below meth c C k0 n0 H locs cells slots ls hM hS hl hk hn => lv_lsub C.1.1 C.1.2.1 hd (h A p e s m args below meth c C k0 n0 H locs cells slots ls hM hS hl hk hn)
theorem V_i2l {x : Int32} (hd : decode t.2.1 pc = .ok (.i2l, 1)) (h : V l D tys t k n (pc + 1) lv (.long x.toInt64 :: st) M Q) : V l D tys t k n pc lv (.int x :: st) M Q := fun A p e s m args below meth c C k0 n0 H locs cells slots ls hM hS hl hk hn => lv_i2l C.1.1 C.1.2.1 hd rfl (h A p e s m args below meth c C k0 n0 H locs cells slots ls hM hS hl hk hn)
theorem V_l2i {x : Int64} (hd : decode t.2.1 pc = .ok (.l2i, 1)) (h : V l D tys t k n (pc + 1) lv (.int x.toInt32 :: st) M Q) : V l D tys t k n pc lv (.long x :: st) M Q := fun A p e s m args below meth c C k0 n0 H locs cells slots ls hM hS hl hk hn => lv_l2i C.1.1 C.1.2.1 hd rfl (h A p e s m args below meth c C k0 n0 H locs cells slots ls hM hS hl hk hn)
theorem V_i2b {x : Int32} (hd : decode t.2.1 pc = .ok (.i2b, 1)) (h : V l D tys t k n (pc + 1) lv (.int x.toInt8.toInt32 :: st) M Q) : V l D tys t k n pc lv (.int x :: st) M Q := fun A p e s m args below meth c C k0 n0 H locs cells slots ls hM hS hl hk hn => lv_i2b C.1.1 C.1.2.1 hd rfl (h A p e s m args below meth c C k0 n0 H locs cells slots ls hM hS hl hk hn)
theorem V_lcmp {x y : Int64} (hd : decode t.2.1 pc = .ok (.lcmp, 1)) (h : V l D tys t k n (pc + 1) lv (.int (lg_cmp x y) :: st) M Q) : V l D tys t k n pc lv (.long y :: .long x :: st) M Q := fun A p e s m args below meth c C k0 n0 H locs cells slots ls hM hS hl hk hn => W.lcmp C.1.1 C.1.2.1 hd (h A p e s m args below meth c C k0 n0 H locs cells slots ls hM hS hl hk hn)
theorem V_iconst {j : Int} {v : Int32} (hd : decode t.2.1 pc = .ok (.iconst j, 1)) (hv : Int32.ofInt j = v) (h : V l D tys t k n (pc + 1) lv (.int v :: st) M Q) : V l D tys t k n pc lv st M Q := fun A p e s m args below meth c C k0 n0 H locs cells slots ls hM hS hl hk hn => lv_iconst C.1.1 C.1.2.1 hd hv (h A p e s m args below meth c C k0 n0 H locs cells slots ls hM hS hl hk hn)
theorem V_bipush {j : Int} {v : Int32} (hd : decode t.2.1 pc = .ok (.bipush j, 2)) (hv : (Int8.ofInt j).toInt32 = v) (h : V l D tys t k n (pc + 2) lv (.int v :: st) M Q) : V l D tys t k n pc lv st M Q := fun A p e s m args below meth c C k0 n0 H locs cells slots ls hM hS hl hk hn => lv_bipush C.1.1 C.1.2.1 hd hv (h A p e s m args below meth c C k0 n0 H locs cells slots ls hM hS hl hk hn)
theorem V_sipush {j : Int} {v : Int32} (hd : decode t.2.1 pc = .ok (.sipush j, 3)) (hv : (Int16.ofInt j).toInt32 = v) (h : V l D tys t k n (pc + 3) lv (.int v :: st) M Q) : V l D tys t k n pc lv st M Q := fun A p e s m args below meth c C k0 n0 H locs cells slots ls hM hS hl hk hn => lv_sipush C.1.1 C.1.2.1 hd hv (h A p e s m args below meth c C k0 n0 H locs cells slots ls hM hS hl hk hn)
theorem V_lconst {j : Fin 2} {v : Int64} (hd : decode t.2.1 pc = .ok (.lconst j, 1)) (hv : Int64.ofNat (j : Nat) = v) (h : V l D tys t k n (pc + 1) lv (.long v :: st) M Q) : V l D tys t k n pc lv st M Q := fun A p e s m args below meth c C k0 n0 H locs cells slots ls hM hS hl hk hn => lv_lconst C.1.1 C.1.2.1 hd hv (h A p e s m args below meth c C k0 n0 H locs cells slots ls hM hS hl hk hn)
theorem V_ldc {i : Nat} {v : Int32} (hd : decode t.2.1 pc = .ok (.ldc i, 2)) (hw : Cond.constant t.1.cls i v ∈ gw) (h : V l D tys t k n (pc + 2) lv (.int v :: st) M Q) : V l D tys t k n pc lv st M Q := fun A p e s m args below meth c C k0 n0 H locs cells slots ls hM hS hl hk hn => lv_ldc C.1.1 C.1.2.1 C.1.2.2.2.1 (gw_ts C.1.2.2.2.2 hw) hd (h A p e s m args below meth c C k0 n0 H locs cells slots ls hM hS hl hk hn)
theorem V_ldc2 {i : Nat} {v : Int64} (hd : decode t.2.1 pc = .ok (.ldc2_w i, 3)) (hw : Cond.constantLong t.1.cls i v ∈ gw) (h : V l D tys t k n (pc + 3) lv (.long v :: st) M Q) : V l D tys t k n pc lv st M Q := fun A p e s m args below meth c C k0 n0 H locs cells slots ls hM hS hl hk hn => lv_ldc2 C.1.1 C.1.2.1 C.1.2.2.2.1 (gw_ts C.1.2.2.2.2 hw) hd (h A p e s m args below meth c C k0 n0 H locs cells slots ls hM hS hl hk hn)
theorem V_dup {v : Value} (hd : decode t.2.1 pc = .ok (.dup, 1)) (hc : v.category = 1) (h : V l D tys t k n (pc + 1) lv (v :: v :: st) M Q) : V l D tys t k n pc lv (v :: st) M Q := fun A p e s m args below meth c C k0 n0 H locs cells slots ls hM hS hl hk hn => lv_dup C.1.1 C.1.2.1 hd hc (h A p e s m args below meth c C k0 n0 H locs cells slots ls hM hS hl hk hn)
theorem V_pop {v : Value} (hd : decode t.2.1 pc = .ok (.pop, 1)) (hc : v.category = 1) (h : V l D tys t k n (pc + 1) lv st M Q) : V l D tys t k n pc lv (v :: st) M Q := fun A p e s m args below meth c C k0 n0 H locs cells slots ls hM hS hl hk hn => lv_pop C.1.1 C.1.2.1 hd hc (h A p e s m args below meth c C k0 n0 H locs cells slots ls hM hS hl hk hn)
theorem V_dup_x1 {v w : Value} (hd : decode t.2.1 pc = .ok (.dup_x1, 1)) (hc : v.category = 1) (hc2 : w.category = 1) (h : V l D tys t k n (pc + 1) lv (v :: w :: v :: st) M Q) : V l D tys t k n pc lv (v :: w :: st) M Q := fun A p e s m args below meth c C k0 n0 H locs cells slots ls hM hS hl hk hn => lv_dup_x1 C.1.1 C.1.2.1 hd hc hc2 (h A p e s m args below meth c C k0 n0 H locs cells slots ls hM hS hl hk hn)
theorem V_dup2 {v w : Value} (hd : decode t.2.1 pc = .ok (.dup2, 1)) (hc : v.category = 1) (hc2 : w.category = 1) (h : V l D tys t k n (pc + 1) lv (v :: w :: v :: w :: st) M Q) : V l D tys t k n pc lv (v :: w :: st) M Q := fun A p e s m args below meth c C k0 n0 H locs cells slots ls hM hS hl hk hn => lv_dup2_11 C.1.1 C.1.2.1 hd hc hc2 (h A p e s m args below meth c C k0 n0 H locs cells slots ls hM hS hl hk hn)
theorem V_null  (hd : decode t.2.1 pc = .ok (.aconst_null, 1)) (h : V l D tys t k n (pc + 1) lv (.null :: st) M Q) : V l D tys t k n pc lv st M Q := fun A p e s m args below meth c C k0 n0 H locs cells slots ls hM hS hl hk hn => lv_null C.1.1 C.1.2.1 hd (h A p e s m args below meth c C k0 n0 H locs cells slots ls hM hS hl hk hn)
theorem V_iload_n {j : Fin 4} {x : Int32} (hd : decode t.2.1 pc = .ok (.iload_n j, 1)) (hv : lv.lookup (j : Nat) = some (.int x)) (h : V l D tys t k n (pc + 1) lv (.int x :: st) M Q) : V l D tys t k n pc lv st M Q := fun A p e s m args below meth c C k0 n0 H locs cells slots ls hM hS hl hk hn => lv_iload_n C.1.1 C.1.2.1 hd rfl (lv_look hl hv) (h A p e s m args below meth c C k0 n0 H locs cells slots ls hM hS hl hk hn)
theorem V_iload {i : Nat} {x : Int32} (hd : decode t.2.1 pc = .ok (.iload i, 2)) (hv : lv.lookup i = some (.int x)) (h : V l D tys t k n (pc + 2) lv (.int x :: st) M Q) : V l D tys t k n pc lv st M Q := fun A p e s m args below meth c C k0 n0 H locs cells slots ls hM hS hl hk hn => lv_iload C.1.1 C.1.2.1 hd (lv_look hl hv) (h A p e s m args below meth c C k0 n0 H locs cells slots ls hM hS hl hk hn)
theorem V_lload_n {j : Fin 4} {x : Int64} (hd : decode t.2.1 pc = .ok (.lload_n j, 1)) (hv : lv.lookup (j : Nat) = some (.long x)) (h : V l D tys t k n (pc + 1) lv (.long x :: st) M Q) : V l D tys t k n pc lv st M Q := fun A p e s m args below meth c C k0 n0 H locs cells slots ls hM hS hl hk hn => lv_lload_n C.1.1 C.1.2.1 hd rfl (lv_look hl hv) (h A p e s m args below meth c C k0 n0 H locs cells slots ls hM hS hl hk hn)
theorem V_lload {i : Nat} {x : Int64} (hd : decode t.2.1 pc = .ok (.lload i, 2)) (hv : lv.lookup i = some (.long x)) (h : V l D tys t k n (pc + 2) lv (.long x :: st) M Q) : V l D tys t k n pc lv st M Q := fun A p e s m args below meth c C k0 n0 H locs cells slots ls hM hS hl hk hn => lv_lload C.1.1 C.1.2.1 hd (lv_look hl hv) (h A p e s m args below meth c C k0 n0 H locs cells slots ls hM hS hl hk hn)
theorem V_aload_n {j : Fin 4} {v : Value} (hd : decode t.2.1 pc = .ok (.aload_n j, 1)) (hv : lv.lookup (j : Nat) = some v) (hr : isr v) (h : V l D tys t k n (pc + 1) lv (v :: st) M Q) : V l D tys t k n pc lv st M Q := fun A p e s m args below meth c C k0 n0 H locs cells slots ls hM hS hl hk hn => by
  rcases hr with rfl | ⟨x, rfl⟩
  · exact lv_aload_nN C.1.1 C.1.2.1 hd rfl (lv_look hl hv) (h A p e s m args below meth c C k0 n0 H locs cells slots ls hM hS hl hk hn)
  · exact lv_aload_n C.1.1 C.1.2.1 hd rfl (lv_look hl hv) (h A p e s m args below meth c C k0 n0 H locs cells slots ls hM hS hl hk hn)
theorem V_aload {i : Nat} {v : Value} (hd : decode t.2.1 pc = .ok (.aload i, 2)) (hv : lv.lookup i = some v) (hr : isr v) (h : V l D tys t k n (pc + 2) lv (v :: st) M Q) : V l D tys t k n pc lv st M Q := fun A p e s m args below meth c C k0 n0 H locs cells slots ls hM hS hl hk hn => by
  rcases hr with rfl | ⟨x, rfl⟩
  · exact lv_aloadN C.1.1 C.1.2.1 hd (lv_look hl hv) (h A p e s m args below meth c C k0 n0 H locs cells slots ls hM hS hl hk hn)
  · exact lv_aload C.1.1 C.1.2.1 hd (lv_look hl hv) (h A p e s m args below meth c C k0 n0 H locs cells slots ls hM hS hl hk hn)
theorem V_istore_n {j : Fin 4} {x : Int32} {lv' : List (Nat × Value)} (hd : decode t.2.1 pc = .ok (.istore_n j, 1)) (hb : (j : Nat) < t.2.2.1) (hf : ((j : Nat), Value.int x) :: lv.filter (fun q => !(q.1 == (j : Nat)) && !(q.1 + 1 == (j : Nat) && q.2.category == 2)) = lv') (h : V l D tys t k n (pc + 1) lv' st M Q) : V l D tys t k n pc lv (.int x :: st) M Q := fun A p e s m args below meth c C k0 n0 H locs cells slots ls hM hS hl hk hn => lv_istore_n C.1.1 C.1.2.1 hd rfl hl hb hf (fun ls' hl' => h A p e s m args below meth c C k0 n0 H locs cells slots ls' hM hS hl' hk hn)
theorem V_istore {i : Nat} {x : Int32} {lv' : List (Nat × Value)} (hd : decode t.2.1 pc = .ok (.istore i, 2)) (hb : i < t.2.2.1) (hf : (i, Value.int x) :: lv.filter (fun q => !(q.1 == i) && !(q.1 + 1 == i && q.2.category == 2)) = lv') (h : V l D tys t k n (pc + 2) lv' st M Q) : V l D tys t k n pc lv (.int x :: st) M Q := fun A p e s m args below meth c C k0 n0 H locs cells slots ls hM hS hl hk hn => lv_istore C.1.1 C.1.2.1 hd hl hb hf (fun ls' hl' => h A p e s m args below meth c C k0 n0 H locs cells slots ls' hM hS hl' hk hn)
theorem V_lstore_n {j : Fin 4} {x : Int64} {lv' : List (Nat × Value)} (hd : decode t.2.1 pc = .ok (.lstore_n j, 1)) (hb : (j : Nat) + 1 < t.2.2.1) (hf : ((j : Nat), Value.long x) :: lv.filter (fun q => !(q.1 == (j : Nat)) && (!(q.1 == (j : Nat) + 1) && !(q.1 + 1 == (j : Nat) && q.2.category == 2))) = lv') (h : V l D tys t k n (pc + 1) lv' st M Q) : V l D tys t k n pc lv (.long x :: st) M Q := fun A p e s m args below meth c C k0 n0 H locs cells slots ls hM hS hl hk hn => lv_lstore_n C.1.1 C.1.2.1 hd rfl hl hb hf (fun ls' hl' => h A p e s m args below meth c C k0 n0 H locs cells slots ls' hM hS hl' hk hn)
theorem V_lstore {i : Nat} {x : Int64} {lv' : List (Nat × Value)} (hd : decode t.2.1 pc = .ok (.lstore i, 2)) (hb : i + 1 < t.2.2.1) (hf : (i, Value.long x) :: lv.filter (fun q => !(q.1 == i) && (!(q.1 == i + 1) && !(q.1 + 1 == i && q.2.category == 2))) = lv') (h : V l D tys t k n (pc + 2) lv' st M Q) : V l D tys t k n pc lv (.long x :: st) M Q := fun A p e s m args below meth c C k0 n0 H locs cells slots ls hM hS hl hk hn => lv_lstore C.1.1 C.1.2.1 hd hl hb hf (fun ls' hl' => h A p e s m args below meth c C k0 n0 H locs cells slots ls' hM hS hl' hk hn)
theorem V_astore_n {j : Fin 4} {v : Value} {lv' : List (Nat × Value)} (hd : decode t.2.1 pc = .ok (.astore_n j, 1)) (hr : isr v) (hb : (j : Nat) < t.2.2.1) (hf : ((j : Nat), v) :: lv.filter (fun q => !(q.1 == (j : Nat)) && !(q.1 + 1 == (j : Nat) && q.2.category == 2)) = lv') (h : V l D tys t k n (pc + 1) lv' st M Q) : V l D tys t k n pc lv (v :: st) M Q := fun A p e s m args below meth c C k0 n0 H locs cells slots ls hM hS hl hk hn => by
  rcases hr with rfl | ⟨x, rfl⟩
  · exact lv_astore_nN C.1.1 C.1.2.1 hd rfl hl hb hf (fun ls' hl' => h A p e s m args below meth c C k0 n0 H locs cells slots ls' hM hS hl' hk hn)
  · exact lv_astore_n C.1.1 C.1.2.1 hd rfl hl hb hf (fun ls' hl' => h A p e s m args below meth c C k0 n0 H locs cells slots ls' hM hS hl' hk hn)
theorem V_astore {i : Nat} {v : Value} {lv' : List (Nat × Value)} (hd : decode t.2.1 pc = .ok (.astore i, 2)) (hr : isr v) (hb : i < t.2.2.1) (hf : (i, v) :: lv.filter (fun q => !(q.1 == i) && !(q.1 + 1 == i && q.2.category == 2)) = lv') (h : V l D tys t k n (pc + 2) lv' st M Q) : V l D tys t k n pc lv (v :: st) M Q := fun A p e s m args below meth c C k0 n0 H locs cells slots ls hM hS hl hk hn => by
  rcases hr with rfl | ⟨x, rfl⟩
  · exact lv_astoreN C.1.1 C.1.2.1 hd hl hb hf (fun ls' hl' => h A p e s m args below meth c C k0 n0 H locs cells slots ls' hM hS hl' hk hn)
  · exact lv_astore C.1.1 C.1.2.1 hd hl hb hf (fun ls' hl' => h A p e s m args below meth c C k0 n0 H locs cells slots ls' hM hS hl' hk hn)
theorem V_iinc {i : Nat} {j : Int} {x v : Int32} {lv' : List (Nat × Value)} (q : Nat) (hd : decode t.2.1 pc = .ok (.iinc i j, 3)) (hq : lv[q]? = some (i, .int x)) (hv : x + Int32.ofInt j = v) (hb : i < t.2.2.1) (hf : (i, Value.int v) :: lv.filter (fun q => !(q.1 == i) && !(q.1 + 1 == i && q.2.category == 2)) = lv') (h : V l D tys t k n (pc + 3) lv' st M Q) : V l D tys t k n pc lv st M Q := fun A p e s m args below meth c C k0 n0 H locs cells slots ls hM hS hl hk hn => lv_iinc C.1.1 C.1.2.1 hd hl hq hv hb hf (fun ls' hl' => h A p e s m args below meth c C k0 n0 H locs cells slots ls' hM hS hl' hk hn)
theorem V_goto {off : Int} (tgt : Nat) (hd : decode t.2.1 pc = .ok (.goto off, 3)) (ht : (pc : Int) + off = (tgt : Int)) (h : V l D tys t k n tgt lv st M Q) : V l D tys t k n pc lv st M Q := fun A p e s m args below meth c C k0 n0 H locs cells slots ls hM hS hl hk hn => lv_goto C.1.1 C.1.2.1 hd ht (h A p e s m args below meth c C k0 n0 H locs cells slots ls hM hS hl hk hn)
theorem V_if_eq {x : Int32} {off : Int} (tgt : Nat) (hd : decode t.2.1 pc = .ok (.ifCond .eq off, 3)) (ht : (pc : Int) + off = (tgt : Int)) (h1 : x = 0 → V l D tys t k n tgt lv st M Q) (h2 : ¬ (x = 0) → V l D tys t k n (pc + 3) lv st M Q) : V l D tys t k n pc lv (.int x :: st) M Q := fun A p e s m args below meth c C k0 n0 H locs cells slots ls hM hS hl hk hn => lv_if_eq C.1.1 C.1.2.1 hd ht (fun q => h1 q A p e s m args below meth c C k0 n0 H locs cells slots ls hM hS hl hk hn) (fun q => h2 q A p e s m args below meth c C k0 n0 H locs cells slots ls hM hS hl hk hn)
theorem V_icmp_eq {x y : Int32} {off : Int} (tgt : Nat) (hd : decode t.2.1 pc = .ok (.if_icmp .eq off, 3)) (ht : (pc : Int) + off = (tgt : Int)) (h1 : x = y → V l D tys t k n tgt lv st M Q) (h2 : ¬ (x = y) → V l D tys t k n (pc + 3) lv st M Q) : V l D tys t k n pc lv (.int y :: .int x :: st) M Q := fun A p e s m args below meth c C k0 n0 H locs cells slots ls hM hS hl hk hn => lv_icmp_eq C.1.1 C.1.2.1 hd ht (fun q => h1 q A p e s m args below meth c C k0 n0 H locs cells slots ls hM hS hl hk hn) (fun q => h2 q A p e s m args below meth c C k0 n0 H locs cells slots ls hM hS hl hk hn)
theorem V_if_ne {x : Int32} {off : Int} (tgt : Nat) (hd : decode t.2.1 pc = .ok (.ifCond .ne off, 3)) (ht : (pc : Int) + off = (tgt : Int)) (h1 : ¬ x = 0 → V l D tys t k n tgt lv st M Q) (h2 : ¬ (¬ x = 0) → V l D tys t k n (pc + 3) lv st M Q) : V l D tys t k n pc lv (.int x :: st) M Q := fun A p e s m args below meth c C k0 n0 H locs cells slots ls hM hS hl hk hn => lv_if_ne C.1.1 C.1.2.1 hd ht (fun q => h1 q A p e s m args below meth c C k0 n0 H locs cells slots ls hM hS hl hk hn) (fun q => h2 (fun z => z q) A p e s m args below meth c C k0 n0 H locs cells slots ls hM hS hl hk hn)
theorem V_icmp_ne {x y : Int32} {off : Int} (tgt : Nat) (hd : decode t.2.1 pc = .ok (.if_icmp .ne off, 3)) (ht : (pc : Int) + off = (tgt : Int)) (h1 : ¬ x = y → V l D tys t k n tgt lv st M Q) (h2 : ¬ (¬ x = y) → V l D tys t k n (pc + 3) lv st M Q) : V l D tys t k n pc lv (.int y :: .int x :: st) M Q := fun A p e s m args below meth c C k0 n0 H locs cells slots ls hM hS hl hk hn => lv_icmp_ne C.1.1 C.1.2.1 hd ht (fun q => h1 q A p e s m args below meth c C k0 n0 H locs cells slots ls hM hS hl hk hn) (fun q => h2 (fun z => z q) A p e s m args below meth c C k0 n0 H locs cells slots ls hM hS hl hk hn)
theorem V_if_lt {x : Int32} {off : Int} (tgt : Nat) (hd : decode t.2.1 pc = .ok (.ifCond .lt off, 3)) (ht : (pc : Int) + off = (tgt : Int)) (h1 : x < 0 → V l D tys t k n tgt lv st M Q) (h2 : ¬ (x < 0) → V l D tys t k n (pc + 3) lv st M Q) : V l D tys t k n pc lv (.int x :: st) M Q := fun A p e s m args below meth c C k0 n0 H locs cells slots ls hM hS hl hk hn => lv_if_lt C.1.1 C.1.2.1 hd ht (fun q => h1 q A p e s m args below meth c C k0 n0 H locs cells slots ls hM hS hl hk hn) (fun q => h2 q A p e s m args below meth c C k0 n0 H locs cells slots ls hM hS hl hk hn)
theorem V_icmp_lt {x y : Int32} {off : Int} (tgt : Nat) (hd : decode t.2.1 pc = .ok (.if_icmp .lt off, 3)) (ht : (pc : Int) + off = (tgt : Int)) (h1 : x < y → V l D tys t k n tgt lv st M Q) (h2 : ¬ (x < y) → V l D tys t k n (pc + 3) lv st M Q) : V l D tys t k n pc lv (.int y :: .int x :: st) M Q := fun A p e s m args below meth c C k0 n0 H locs cells slots ls hM hS hl hk hn => lv_icmp_lt C.1.1 C.1.2.1 hd ht (fun q => h1 q A p e s m args below meth c C k0 n0 H locs cells slots ls hM hS hl hk hn) (fun q => h2 q A p e s m args below meth c C k0 n0 H locs cells slots ls hM hS hl hk hn)
theorem V_if_ge {x : Int32} {off : Int} (tgt : Nat) (hd : decode t.2.1 pc = .ok (.ifCond .ge off, 3)) (ht : (pc : Int) + off = (tgt : Int)) (h1 : 0 ≤ x → V l D tys t k n tgt lv st M Q) (h2 : ¬ (0 ≤ x) → V l D tys t k n (pc + 3) lv st M Q) : V l D tys t k n pc lv (.int x :: st) M Q := fun A p e s m args below meth c C k0 n0 H locs cells slots ls hM hS hl hk hn => lv_if_ge C.1.1 C.1.2.1 hd ht (fun q => h1 q A p e s m args below meth c C k0 n0 H locs cells slots ls hM hS hl hk hn) (fun q => h2 q A p e s m args below meth c C k0 n0 H locs cells slots ls hM hS hl hk hn)
theorem V_icmp_ge {x y : Int32} {off : Int} (tgt : Nat) (hd : decode t.2.1 pc = .ok (.if_icmp .ge off, 3)) (ht : (pc : Int) + off = (tgt : Int)) (h1 : y ≤ x → V l D tys t k n tgt lv st M Q) (h2 : ¬ (y ≤ x) → V l D tys t k n (pc + 3) lv st M Q) : V l D tys t k n pc lv (.int y :: .int x :: st) M Q := fun A p e s m args below meth c C k0 n0 H locs cells slots ls hM hS hl hk hn => lv_icmp_ge C.1.1 C.1.2.1 hd ht (fun q => h1 q A p e s m args below meth c C k0 n0 H locs cells slots ls hM hS hl hk hn) (fun q => h2 q A p e s m args below meth c C k0 n0 H locs cells slots ls hM hS hl hk hn)
theorem V_if_gt {x : Int32} {off : Int} (tgt : Nat) (hd : decode t.2.1 pc = .ok (.ifCond .gt off, 3)) (ht : (pc : Int) + off = (tgt : Int)) (h1 : 0 < x → V l D tys t k n tgt lv st M Q) (h2 : ¬ (0 < x) → V l D tys t k n (pc + 3) lv st M Q) : V l D tys t k n pc lv (.int x :: st) M Q := fun A p e s m args below meth c C k0 n0 H locs cells slots ls hM hS hl hk hn => lv_if_gt C.1.1 C.1.2.1 hd ht (fun q => h1 q A p e s m args below meth c C k0 n0 H locs cells slots ls hM hS hl hk hn) (fun q => h2 q A p e s m args below meth c C k0 n0 H locs cells slots ls hM hS hl hk hn)
theorem V_icmp_gt {x y : Int32} {off : Int} (tgt : Nat) (hd : decode t.2.1 pc = .ok (.if_icmp .gt off, 3)) (ht : (pc : Int) + off = (tgt : Int)) (h1 : y < x → V l D tys t k n tgt lv st M Q) (h2 : ¬ (y < x) → V l D tys t k n (pc + 3) lv st M Q) : V l D tys t k n pc lv (.int y :: .int x :: st) M Q := fun A p e s m args below meth c C k0 n0 H locs cells slots ls hM hS hl hk hn => lv_icmp_gt C.1.1 C.1.2.1 hd ht (fun q => h1 q A p e s m args below meth c C k0 n0 H locs cells slots ls hM hS hl hk hn) (fun q => h2 q A p e s m args below meth c C k0 n0 H locs cells slots ls hM hS hl hk hn)
theorem V_if_le {x : Int32} {off : Int} (tgt : Nat) (hd : decode t.2.1 pc = .ok (.ifCond .le off, 3)) (ht : (pc : Int) + off = (tgt : Int)) (h1 : x ≤ 0 → V l D tys t k n tgt lv st M Q) (h2 : ¬ (x ≤ 0) → V l D tys t k n (pc + 3) lv st M Q) : V l D tys t k n pc lv (.int x :: st) M Q := fun A p e s m args below meth c C k0 n0 H locs cells slots ls hM hS hl hk hn => lv_if_le C.1.1 C.1.2.1 hd ht (fun q => h1 q A p e s m args below meth c C k0 n0 H locs cells slots ls hM hS hl hk hn) (fun q => h2 q A p e s m args below meth c C k0 n0 H locs cells slots ls hM hS hl hk hn)
theorem V_icmp_le {x y : Int32} {off : Int} (tgt : Nat) (hd : decode t.2.1 pc = .ok (.if_icmp .le off, 3)) (ht : (pc : Int) + off = (tgt : Int)) (h1 : x ≤ y → V l D tys t k n tgt lv st M Q) (h2 : ¬ (x ≤ y) → V l D tys t k n (pc + 3) lv st M Q) : V l D tys t k n pc lv (.int y :: .int x :: st) M Q := fun A p e s m args below meth c C k0 n0 H locs cells slots ls hM hS hl hk hn => lv_icmp_le C.1.1 C.1.2.1 hd ht (fun q => h1 q A p e s m args below meth c C k0 n0 H locs cells slots ls hM hS hl hk hn) (fun q => h2 q A p e s m args below meth c C k0 n0 H locs cells slots ls hM hS hl hk hn)
theorem V_ifnull {v : Value} {off : Int} (tgt : Nat) (hr : isr v) (hd : decode t.2.1 pc = .ok (.ifnull off, 3)) (ht : (pc : Int) + off = (tgt : Int)) (h1 : v = .null → V l D tys t k n tgt lv st M Q) (h2 : ∀ a, v = .ref a → V l D tys t k n (pc + 3) lv st M Q) : V l D tys t k n pc lv (v :: st) M Q := fun A p e s m args below meth c C k0 n0 H locs cells slots ls hM hS hl hk hn => by
  rcases hr with rfl | ⟨x, rfl⟩
  · exact lv_ifnullN C.1.1 C.1.2.1 hd ht (h1 rfl A p e s m args below meth c C k0 n0 H locs cells slots ls hM hS hl hk hn)
  · exact lv_ifnull C.1.1 C.1.2.1 hd (h2 x rfl A p e s m args below meth c C k0 n0 H locs cells slots ls hM hS hl hk hn)
theorem V_ifnonnull {v : Value} {off : Int} (tgt : Nat) (hr : isr v) (hd : decode t.2.1 pc = .ok (.ifnonnull off, 3)) (ht : (pc : Int) + off = (tgt : Int)) (h1 : ∀ a, v = .ref a → V l D tys t k n tgt lv st M Q) (h2 : v = .null → V l D tys t k n (pc + 3) lv st M Q) : V l D tys t k n pc lv (v :: st) M Q := fun A p e s m args below meth c C k0 n0 H locs cells slots ls hM hS hl hk hn => by
  rcases hr with rfl | ⟨x, rfl⟩
  · exact lv_ifnonnullN C.1.1 C.1.2.1 hd (h2 rfl A p e s m args below meth c C k0 n0 H locs cells slots ls hM hS hl hk hn)
  · exact lv_ifnonnull C.1.1 C.1.2.1 hd ht (h1 x rfl A p e s m args below meth c C k0 n0 H locs cells slots ls hM hS hl hk hn)
end VV
end
section
/-- the array classes of the worlds: int, byte, boolean, long, Box -/
def tyl (ac : Nat → ClassId) : TY := [(ac 0, .int), (ac 1, .byte), (ac 2, .boolean), (ac 3, .long), (ac 4, .object R_Box)]
/-- a field's site: pool entry i of class own is field kf of class number ci, of type FT, declared in dc; fin: it is final -/
def FL (own : String) (i ci kf : Nat) (FT : FieldType) (fin : Bool) (dc : String) : Prop := ∃ (C : String) (T : u_T) (N : Nat) (ty : Nat → FieldType), cls[ci]? = some (C, T, N) ∧ (∀ w ∈ u_ws C T N, w ∈ gw) ∧ (∀ k, k < N → parseFieldDescriptor (T k).2.2.1 = some (ty k)) ∧ (∀ a, a < N → ∀ b, b < N → a ≠ b → (T a).2.1 ≠ (T b).2.1) ∧ kf < N ∧ Cond.fieldLink own i (T kf).1 (T kf).2.1 (T kf).2.2.1 ∈ gw ∧ ty kf = FT ∧ (T kf).2.2.2 = fin ∧ (T kf).1 = dc
def FLN (own : String) (i ci kf : Nat) (FT : FieldType) (fin : Bool) (host : String) : Prop := ∃ (C : String) (T : u_T) (N : Nat) (ty : Nat → FieldType), cls[ci]? = some (C, T, N) ∧ (∀ w ∈ u_ws C T N, w ∈ gw) ∧ (∀ k, k < N → parseFieldDescriptor (T k).2.2.1 = some (ty k)) ∧ (∀ a, a < N → ∀ b, b < N → a ≠ b → (T a).2.1 ≠ (T b).2.1) ∧ kf < N ∧ Cond.fieldLinkNest own i (T kf).1 (T kf).2.1 (T kf).2.2.1 host ∈ nw ∧ ty kf = FT ∧ (T kf).2.2.2 = fin
/-- a class that a site makes -/
def NW (own : String) (i ci : Nat) (fs : List Value) (N : Nat) : Prop := ∃ (C : String) (T : u_T) (ty : Nat → FieldType), cls[ci]? = some (C, T, N) ∧ (∀ w ∈ u_ws C T N, w ∈ gw) ∧ (∀ k, k < N → parseFieldDescriptor (T k).2.2.1 = some (ty k)) ∧ Cond.classLink own i C ∈ gw ∧ Cond.instantiable C N ∈ gw ∧ Cond.initialized C ∈ gw ∧ ∀ j, j < N → defaultValue (ty j) = vp_V fs j
def okd (y : MethodName) (na : Nat) : Prop := y.cls ≠ "java/lang/invoke/MethodHandle" ∧ y.cls ≠ "java/lang/invoke/VarHandle" ∧ (parseMethodDescriptor y.desc).map (fun d => d.parameters.length) = some na
def okc (t : MT) (na : Nat) : Prop := Cond.code t.1 t.2.1 t.2.2.1 t.2.2.2.1 ∈ gw ∧ Cond.initialized t.1.cls ∈ gw ∧ okd t.1 na
/-- call sites: a method of the object, by a link of the tables or a nest mate's; a static one; a constructor -/
def OKV (own : String) (i : Nat) (t : MT) (na : Nat) : Prop := okc t na ∧ Cond.methodLink own i t.1 ∈ gw ∧ Cond.instanceMethod t.1 ∈ gw ∧ Cond.selects t.1.cls t.1 t.1 ∈ gw
def OKVN (own : String) (i : Nat) (t : MT) (na : Nat) : Prop := okc t na ∧ (∃ host, Cond.methodLinkNest own i t.1 host ∈ nw) ∧ Cond.instanceMethod t.1 ∈ gw ∧ Cond.selects t.1.cls t.1 t.1 ∈ gw
def OKS (own : String) (i : Nat) (t : MT) (na : Nat) : Prop := okc t na ∧ Cond.methodLink own i t.1 ∈ gw ∧ Cond.static t.1 ∈ gw
def OKSN (own : String) (i : Nat) (t : MT) (na : Nat) : Prop := okc t na ∧ (∃ host, Cond.methodLinkNest own i t.1 host ∈ nw) ∧ Cond.static t.1 ∈ gw
def OKI (own : String) (i : Nat) (t : MT) (na : Nat) : Prop := okc t na ∧ Cond.methodLink own i t.1 ∈ gw ∧ Cond.instanceMethod t.1 ∈ gw ∧ t.1.name = "<init>" ∧ t.2.2.2.1 = none
def OKIN (own : String) (i : Nat) (t : MT) (na : Nat) : Prop := okc t na ∧ (∃ host, Cond.methodLinkNest own i t.1 host ∈ nw) ∧ Cond.instanceMethod t.1 ∈ gw ∧ t.1.name = "<init>" ∧ t.2.2.2.1 = none
/-- the callee's frames and locals fit -/
def rmf (t t' : MT) : Prop := t'.2.2.2.2.1 + 1 ≤ t.2.2.2.2.1 ∧ 8 + (t'.2.2.1 + 11) + t'.2.2.2.2.2 ≤ t.2.2.2.2.2
theorem gi_ws {t t' : MT} (h : Cond.code t'.1 t'.2.1 t'.2.2.1 t'.2.2.2.1 ∈ gw) : GoodIn (mt_ws t) (mt_ws t') := fun w hw => by
  rcases List.mem_cons.mp hw with rfl | hw
  · exact ⟨List.mem_cons_of_mem _ h, gw_good h⟩
  · exact ⟨List.mem_cons_of_mem _ hw, gw_good hw⟩
theorem blind_M {D : va_G} {tys : TY} {A : Nat → Prop} {M : MP} {av : List Value} : FrameBlind (va_Pc av (PreM D tys A M)) := fun a U g mk q => by
  obtain ⟨q0, q1, q2, q3⟩ := q
  exact ⟨q0, q1, q2, KK_call q3⟩
theorem pre_M {D : va_G} {tys : TY} {A : Nat → Prop} {M : MP} {av : List Value} {s : State} {H H0 : Heap} {locs : List Loc} (hK : KK D tys s) (hA : ∀ q, H0.size ≤ q → A q) (hS : va_S A H0 H locs) (hM : mw D cls A M H) : ∀ U : State, U.heap = H → s.WarmedH U.vm → va_Pc av (PreM D tys A M) av.toArray U := fun U hU hW =>
  ⟨rfl, fun q hq => hA q (Nat.le_trans hS.1 (by rw [← hU]; exact hq)), by rw [hU]; exact hM, KK_warm hW hK⟩
section VH
variable {l : Launch} {D : va_G} {tys : TY} {ac : Nat → ClassId} {t t' : MT} {k n pc : Nat} {lv : List (Nat × Value)} {st rest : List Value} {M : MP} {Q : Option Value → MP → Prop} {x y : Nat}
/-- behind a call -/
theorem V_back {Q' : Option Value → MP → Prop} {p : Program} {e : Env} {s : State} {m : MethodId} {args a : Array Value} {below : List Frame} {meth : Method} {c : Code} {k0 n0 : Nat} {H H0 : Heap} {locs : List Loc} {cells slots k2 n2 : Nat} {ls : Array Slot} {A : Nat → Prop} {Z : State → Prop}
    (hr : va_Run p l e (mt_rm t k0 n0) s m args below meth c H locs cells slots k2 n2 (F0 m pc ls st) rest (QcM D A Q' a) A) (hS : va_S A H0 H locs)
    (h : ∀ (r : Option Value) (M' : MP) (H1 : Heap) (locs1 : List Loc), Q' r M' → mw D cls A M' H1 → va_S A H0 H1 locs1 → W p l e (mt_rm t k0 n0) s m args below meth c H1 locs1 (cells + k2) (slots + n2) Z (F0 m (pc + 3) ls (r.toList ++ rest))) : W p l e (mt_rm t k0 n0) s m args below meth c H locs cells slots Z (F0 m pc ls st) := by
  intro T hT X
  obtain ⟨v, st₀, u, T', L, h0, X', hL, e1, e2, ⟨⟨r, M', hv, hq, hm⟩, hz, hkk⟩, go⟩ := hr T hT X
  cases hv
  rw [h0] at hz hkk
  obtain ⟨t2, a1, b1⟩ := h v M' T'.heap (locs ++ L) hq (by rw [e1]; exact hm) ⟨Nat.le_trans hS.1 (by rw [e1]; exact hz), fun q h1 h2 => by rw [e1, hkk q (Nat.lt_of_lt_of_le h1 hS.1) h2]; exact hS.2.1 q h1 h2, fun q hq => by
      rcases List.mem_append.mp hq with h | h
      · exact hS.2.2 q h
      · exact hL q h⟩ T' rfl X'
  exact ⟨t2, go t2 a1, b1⟩
theorem V_ireturn {v : Int32} (hd : decode t.2.1 pc = .ok (.ireturn, 1)) (hr : t.2.2.2.1 = some .int) (hq : Q (some (.int v)) M) : V l D tys t k n pc lv [.int v] M Q := fun A p e s m args below meth c C k0 n0 H locs cells slots ls hM hS hl hk hn => by
  refine W.widen (k := k0) (n := n0) (by omega) (by omega) ?_
  exact W.iret C.1.1 C.1.2.1 (C.2.1.trans hr) (fun u hu _ => ⟨⟨_, M, rfl, hq, by rw [hu]; exact hM⟩, hS.F hu⟩) hS.2.2 hd C.2.2.1
theorem V_zreturn {v : Int32} {ty : FieldType} (hd : decode t.2.1 pc = .ok (.ireturn, 1)) (hr : t.2.2.2.1 = some ty) (hn9 : narrow ty (.int v) = .int v) (hq : Q (some (.int v)) M) : V l D tys t k n pc lv [.int v] M Q := fun A p e s m args below meth c C k0 n0 H locs cells slots ls hM hS hl hk hn => by
  refine W.widen (k := k0) (n := n0) (by omega) (by omega) ?_
  exact W.zret C.1.1 C.1.2.1 (C.2.1.trans hr) hn9 (fun u hu _ => ⟨⟨_, M, rfl, hq, by rw [hu]; exact hM⟩, hS.F hu⟩) hS.2.2 hd C.2.2.1
theorem V_return  (hd : decode t.2.1 pc = .ok (.return_, 1)) (hr : t.2.2.2.1 = none) (hq : Q none M) : V l D tys t k n pc lv [] M Q := fun A p e s m args below meth c C k0 n0 H locs cells slots ls hM hS hl hk hn => by
  refine W.widen (k := k0) (n := n0) (by omega) (by omega) ?_
  exact W.vret C.1.1 C.1.2.1 (C.2.1.trans hr) (fun u hu _ => ⟨⟨_, M, rfl, hq, by rw [hu]; exact hM⟩, hS.F hu⟩) hS.2.2 hd C.2.2.1
theorem V_lreturn {v : Int64} (hd : decode t.2.1 pc = .ok (.lreturn, 1)) (hr : t.2.2.2.1 = some .long) (hq : Q (some (.long v)) M) : V l D tys t k n pc lv [.long v] M Q := fun A p e s m args below meth c C k0 n0 H locs cells slots ls hM hS hl hk hn => by
  refine W.widen (k := k0) (n := n0) (by omega) (by omega) ?_
  exact W.lret C.1.1 C.1.2.1 (C.2.1.trans hr) (fun u hu _ => ⟨⟨_, M, rfl, hq, by rw [hu]; exact hM⟩, hS.F hu⟩) hS.2.2 hd C.2.2.1
theorem V_areturn {v : Value} {rt : FieldType} (hd : decode t.2.1 pc = .ok (.areturn, 1)) (hr : t.2.2.2.1 = some rt) (hrt : (∃ n, rt = .object n) ∨ ∃ t, rt = .array t) (hv : isr v) (hq : Q (some (v)) M) : V l D tys t k n pc lv [v] M Q := fun A p e s m args below meth c C k0 n0 H locs cells slots ls hM hS hl hk hn => by
  refine W.widen (k := k0) (n := n0) (by omega) (by omega) ?_
  exact W.aret C.1.1 C.1.2.1 (C.2.1.trans hr) hrt hv (fun u hu _ => ⟨⟨_, M, rfl, hq, by rw [hu]; exact hM⟩, hS.F hu⟩) hS.2.2 hd C.2.2.1
theorem V_getf {i ci kf a : Nat} {FT : FieldType} {fin : Bool} {dc : String} {fs : List Value} {v : Value} (hd : decode t.2.1 pc = .ok (.getfield i, 3)) (hf : FL t.1.cls i ci kf FT fin dc) (ha : M a = some (.inr (ci, fs))) (hv : fs[kf]? = some v) (h : V l D tys t k n (pc + 3) lv (v :: st) M Q) : V l D tys t k n pc lv (.ref a :: st) M Q := fun A p e s m args below meth c C k0 n0 H locs cells slots ls hM hS hl hk hn => by
  obtain ⟨Cn, T, N, ty, f1, f2, f3, f4, f5, f6, f7, f8, f9⟩ := hf
  exact mw_get C.1 C.2.2.2.2.1.1 hM (gw_sub f2) ha f1 kf f5 (gw_ts C.1.2.2.2.2 f6) (fun _ z => z) hv hd (h A p e s m args below meth c C k0 n0 H locs cells slots ls hM hS hl hk hn)
theorem V_getfN {i ci kf a : Nat} {FT : FieldType} {fin : Bool} {host : String} {fs : List Value} {v : Value} (hd : decode t.2.1 pc = .ok (.getfield i, 3)) (hf : FLN t.1.cls i ci kf FT fin host) (ha : M a = some (.inr (ci, fs))) (hv : fs[kf]? = some v) (h : V l D tys t k n (pc + 3) lv (v :: st) M Q) : V l D tys t k n pc lv (.ref a :: st) M Q := fun A p e s m args below meth c C k0 n0 H locs cells slots ls hM hS hl hk hn => by
  obtain ⟨Cn, T, N, ty, f1, f2, f3, f4, f5, f6, f7, f8⟩ := hf
  exact mw_getN C.1 C.2.2.2.2.1.1 hM (gw_sub f2) ha f1 kf f5 (va_Nw.use rfl (C.2.2.2.2.1.2 _ f6)) (fun _ z => z) hv hd (h A p e s m args below meth c C k0 n0 H locs cells slots ls hM hS hl hk hn)
theorem V_putf {i ci kf a : Nat} {FT : FieldType} {dc : String} {fs : List Value} {v : Value} (hd : decode t.2.1 pc = .ok (.putfield i, 3)) (hf : FL t.1.cls i ci kf FT false dc) (ha : M a = some (.inr (ci, fs))) (hn9 : narrow FT v = v) (hfit : fits FT v = true) (hlen : kf < fs.length) (h : V l D tys t k n (pc + 3) lv st (mu M a (.inr (ci, fs.set kf v))) Q) : V l D tys t k n pc lv (v :: .ref a :: st) M Q := fun A p e s m args below meth c C k0 n0 H locs cells slots ls hM hS hl hk hn => by
  obtain ⟨Cn, T, N, ty, f1, f2, f3, f4, f5, f6, f7, f8, f9⟩ := hf
  subst f7
  exact mw_put C.1 C.2.2.2.2.1.1 hM hS (gw_sub f2) ty f3 f4 ha f1 kf f5 (gw_ts C.1.2.2.2.2 f6) (fun _ z => z) f8 (f3 kf f5) hn9 hfit hlen hd (fun H locs hM hS => h A p e s m args below meth c C k0 n0 H locs cells slots ls hM hS hl hk hn)
theorem V_putfN {i ci kf a : Nat} {FT : FieldType} {host : String} {fs : List Value} {v : Value} (hd : decode t.2.1 pc = .ok (.putfield i, 3)) (hf : FLN t.1.cls i ci kf FT false host) (ha : M a = some (.inr (ci, fs))) (hn9 : narrow FT v = v) (hfit : fits FT v = true) (hlen : kf < fs.length) (h : V l D tys t k n (pc + 3) lv st (mu M a (.inr (ci, fs.set kf v))) Q) : V l D tys t k n pc lv (v :: .ref a :: st) M Q := fun A p e s m args below meth c C k0 n0 H locs cells slots ls hM hS hl hk hn => by
  obtain ⟨Cn, T, N, ty, f1, f2, f3, f4, f5, f6, f7, f8⟩ := hf
  subst f7
  exact mw_putN C.1 C.2.2.2.2.1.1 hM hS (gw_sub f2) ty f3 f4 ha f1 kf f5 (va_Nw.use rfl (C.2.2.2.2.1.2 _ f6)) (fun _ z => z) f8 (f3 kf f5) hn9 hfit hlen hd (fun H locs hM hS => h A p e s m args below meth c C k0 n0 H locs cells slots ls hM hS hl hk hn)
theorem V_putF {i ci kf a : Nat} {FT : FieldType} {fs : List Value} {v : Value} (hd : decode t.2.1 pc = .ok (.putfield i, 3)) (hf : FL t.1.cls i ci kf FT true t.1.cls) (hin : t.1.name = "<init>") (ha : M a = some (.inr (ci, fs))) (hn9 : narrow FT v = v) (hfit : fits FT v = true) (hlen : kf < fs.length) (h : V l D tys t k n (pc + 3) lv st (mu M a (.inr (ci, fs.set kf v))) Q) : V l D tys t k n pc lv (v :: .ref a :: st) M Q := fun A p e s m args below meth c C k0 n0 H locs cells slots ls hM hS hl hk hn => by
  obtain ⟨Cn, T, N, ty, f1, f2, f3, f4, f5, f6, f7, f8, f9⟩ := hf
  subst f7
  exact mw_putF C.1 C.2.2.2.2.1.1 hM hS (gw_sub f2) ty f3 f4 ha f1 kf f5 (gw_ts C.1.2.2.2.2 f6) (fun _ z => z) f8 (C.2.2.2.1.trans hin) f9 (f3 kf f5) hn9 hfit hlen hd (fun H locs hM hS => h A p e s m args below meth c C k0 n0 H locs cells slots ls hM hS hl hk hn)
theorem V_new {i ci N k' n' : Nat} {fs : List Value} (hd : decode t.2.1 pc = .ok (.new i, 3)) (hf : NW t.1.cls i ci fs N) (hk' : k = k' + 1) (hn' : n = n' + N) (h : ∀ q, M q = none → V l D tys t k' n' (pc + 3) lv (.ref q :: st) (mu M q (.inr (ci, fs))) Q) : V l D tys t k n pc lv st M Q := fun A p e s m args below meth c C k0 n0 H locs cells slots ls hM hS hl hk hn => by
  obtain ⟨Cn, T, ty, f1, f2, f3, f4, f5, f6, f7⟩ := hf
  subst hk'; subst hn'
  exact mw_new C.1 C.2.2.2.2.1.1 hM hS C.2.2.2.2.2 (gw_sub f2) ty f3 (gw_ts C.1.2.2.2.2 f4) (gw_ts C.1.2.2.2.2 f5) (gw_ts C.1.2.2.2.2 f6) f1 f7 (show cells + 1 ≤ k0 by omega) (show slots + N ≤ n0 by omega) hd (fun q H1 hq hM1 hS1 => h q hq A p e s m args below meth c C k0 n0 H1 locs (cells + 1) (slots + N) ls hM1 hS1 hl (by omega) (by omega))
theorem V_objInit {i a : Nat} (hd : decode t.2.1 pc = .ok (.invokespecial i, 3)) (h1 : Cond.methodLink t.1.cls i objectInit ∈ gw) (h2 : Cond.instanceMethod objectInit ∈ gw) (h3 : Cond.code objectInit ⟨#[0xb1]⟩ 1 none ∈ gw) (hfr : 1 ≤ t.2.2.2.2.1) (hlo : (st.map fun v => v.category).sum + 12 ≤ t.2.2.2.2.2) (h : V l D tys t k n (pc + 3) lv st M Q) : V l D tys t k n pc lv (.ref a :: st) M Q := fun A p e s m args below meth c C k0 n0 H locs cells slots ls hM hS hl hk hn =>
  W.objInit C.1.1 C.1.2.1 C.1.2.2.2.1 (gw_ts C.1.2.2.2.2 h1) (gw_ts C.1.2.2.2.2 h2) (gw_ts C.1.2.2.2.2 h3) rfl (hl.1.trans C.1.2.2.1.symm) rfl hd hfr (by show 2 * 0 + _ + 12 ≤ t.2.2.2.2.2; omega) (h A p e s m args below meth c C k0 n0 H locs cells slots ls hM hS hl hk hn)
theorem V_callV {i na : Nat} {As : List Value} {k' n' k2 n2 : Nat} {Q' : Option Value → MP → Prop} {b ci N : Nat} {T : u_T} {fs : List Value} (ha : M b = some (.inr (ci, fs))) (hcl : cls[ci]? = some (t'.1.cls, T, N)) (hd : decode t.2.1 pc = .ok (.invokevirtual i, 3)) (ok : OKV t.1.cls i t' na) (hR : rmf t t') (hna : As.length = na) (hst : st = As.reverse ++ .ref b :: rest) (hW9 : (rest.map fun v => v.category).sum ≤ 8) (hk' : k = k' + k2) (hn' : n = n' + n2) (ct : Ct l D tys t' k2 n2 (.ref b :: As) M Q') (h : ∀ r M', Q' r M' → V l D tys t k' n' (pc + 3) lv (r.toList ++ rest) M' Q) : V l D tys t k n pc lv st M Q := fun A p e s m args below meth c C k0 n0 H locs cells slots ls hM hS hl hk hn => by
  subst hk'; subst hn'
  obtain ⟨⟨o1, o2, o3⟩, o4, o5, o6⟩ := ok
  refine V_back (va_runV (As := As) (rest := rest) C.1 (ct A) ⟨(callB_of na C.1.2.2.2.2 (gi_ws o1) rfl rfl rfl (gw_ts C.1.2.2.2.2 o2) (gw_ts C.1.2.2.2.2 o4) o3 hR), gw_ts C.1.2.2.2.2 o5, gw_ts C.1.2.2.2.2 o6⟩ ⟨blind_M, va_recv C.2.2.2.2.1.1 (mw_one hM ha) (ci := ci) (q0 := 0) hcl rfl, pre_M C.2.2.2.2.1 C.2.2.2.2.2 hS hM⟩ rfl hna hl.1 hst (lv_room hW9) hd ⟨show cells + k2 ≤ k0 by omega, show slots + n2 ≤ n0 by omega⟩) hS (fun r M' H1 locs1 hq hM1 hS1 => h r M' hq A p e s m args below meth c C k0 n0 H1 locs1 (cells + k2) (slots + n2) ls hM1 hS1 hl (by omega) (by omega))
theorem V_callVN {i na : Nat} {As : List Value} {k' n' k2 n2 : Nat} {Q' : Option Value → MP → Prop} {b ci N : Nat} {T : u_T} {fs : List Value} (ha : M b = some (.inr (ci, fs))) (hcl : cls[ci]? = some (t'.1.cls, T, N)) (hd : decode t.2.1 pc = .ok (.invokevirtual i, 3)) (ok : OKVN t.1.cls i t' na) (hR : rmf t t') (hna : As.length = na) (hst : st = As.reverse ++ .ref b :: rest) (hW9 : (rest.map fun v => v.category).sum ≤ 8) (hk' : k = k' + k2) (hn' : n = n' + n2) (ct : Ct l D tys t' k2 n2 (.ref b :: As) M Q') (h : ∀ r M', Q' r M' → V l D tys t k' n' (pc + 3) lv (r.toList ++ rest) M' Q) : V l D tys t k n pc lv st M Q := fun A p e s m args below meth c C k0 n0 H locs cells slots ls hM hS hl hk hn => by
  subst hk'; subst hn'
  obtain ⟨⟨o1, o2, o3⟩, ⟨host, o4⟩, o5, o6⟩ := ok
  refine V_back (va_runVN (As := As) (rest := rest) C.1 (ct A) ⟨(va_cnB na C.1.2.2.2.2 (gi_ws o1) rfl rfl rfl (C.2.2.2.2.1.2 _ o4) (gw_ts C.1.2.2.2.2 o2) o3 hR), gw_ts C.1.2.2.2.2 o5, gw_ts C.1.2.2.2.2 o6⟩ ⟨blind_M, va_recv C.2.2.2.2.1.1 (mw_one hM ha) (ci := ci) (q0 := 0) hcl rfl, pre_M C.2.2.2.2.1 C.2.2.2.2.2 hS hM⟩ rfl hna hl.1 hst (lv_room hW9) hd ⟨show cells + k2 ≤ k0 by omega, show slots + n2 ≤ n0 by omega⟩) hS (fun r M' H1 locs1 hq hM1 hS1 => h r M' hq A p e s m args below meth c C k0 n0 H1 locs1 (cells + k2) (slots + n2) ls hM1 hS1 hl (by omega) (by omega))
theorem V_callS {i na : Nat} {As : List Value} {k' n' k2 n2 : Nat} {Q' : Option Value → MP → Prop} (hd : decode t.2.1 pc = .ok (.invokestatic i, 3)) (ok : OKS t.1.cls i t' na) (hR : rmf t t') (hna : As.length = na) (hst : st = As.reverse ++ rest) (hW9 : (rest.map fun v => v.category).sum ≤ 8) (hk' : k = k' + k2) (hn' : n = n' + n2) (ct : Ct l D tys t' k2 n2 (As) M Q') (h : ∀ r M', Q' r M' → V l D tys t k' n' (pc + 3) lv (r.toList ++ rest) M' Q) : V l D tys t k n pc lv st M Q := fun A p e s m args below meth c C k0 n0 H locs cells slots ls hM hS hl hk hn => by
  subst hk'; subst hn'
  obtain ⟨⟨o1, o2, o3⟩, o4, o5⟩ := ok
  refine V_back (va_runS (As := As) (rest := rest) C.1 (ct A) ⟨(callB_of na C.1.2.2.2.2 (gi_ws o1) rfl rfl rfl (gw_ts C.1.2.2.2.2 o2) (gw_ts C.1.2.2.2.2 o4) o3 hR), gw_ts C.1.2.2.2.2 o5⟩ ⟨blind_M, pre_M C.2.2.2.2.1 C.2.2.2.2.2 hS hM⟩ rfl hna hl.1 hst (lv_room hW9) hd ⟨show cells + k2 ≤ k0 by omega, show slots + n2 ≤ n0 by omega⟩) hS (fun r M' H1 locs1 hq hM1 hS1 => h r M' hq A p e s m args below meth c C k0 n0 H1 locs1 (cells + k2) (slots + n2) ls hM1 hS1 hl (by omega) (by omega))
theorem V_callSN {i na : Nat} {As : List Value} {k' n' k2 n2 : Nat} {Q' : Option Value → MP → Prop} (hd : decode t.2.1 pc = .ok (.invokestatic i, 3)) (ok : OKSN t.1.cls i t' na) (hR : rmf t t') (hna : As.length = na) (hst : st = As.reverse ++ rest) (hW9 : (rest.map fun v => v.category).sum ≤ 8) (hk' : k = k' + k2) (hn' : n = n' + n2) (ct : Ct l D tys t' k2 n2 (As) M Q') (h : ∀ r M', Q' r M' → V l D tys t k' n' (pc + 3) lv (r.toList ++ rest) M' Q) : V l D tys t k n pc lv st M Q := fun A p e s m args below meth c C k0 n0 H locs cells slots ls hM hS hl hk hn => by
  subst hk'; subst hn'
  obtain ⟨⟨o1, o2, o3⟩, ⟨host, o4⟩, o5⟩ := ok
  refine V_back (va_runSN (As := As) (rest := rest) C.1 (ct A) ⟨(va_cnB na C.1.2.2.2.2 (gi_ws o1) rfl rfl rfl (C.2.2.2.2.1.2 _ o4) (gw_ts C.1.2.2.2.2 o2) o3 hR), gw_ts C.1.2.2.2.2 o5, trivial⟩ ⟨blind_M, pre_M C.2.2.2.2.1 C.2.2.2.2.2 hS hM⟩ rfl hna hl.1 hst (lv_room hW9) hd ⟨show cells + k2 ≤ k0 by omega, show slots + n2 ≤ n0 by omega⟩) hS (fun r M' H1 locs1 hq hM1 hS1 => h r M' hq A p e s m args below meth c C k0 n0 H1 locs1 (cells + k2) (slots + n2) ls hM1 hS1 hl (by omega) (by omega))
theorem V_callI {i na : Nat} {As : List Value} {k' n' k2 n2 : Nat} {Q' : Option Value → MP → Prop} {b : Nat} (hd : decode t.2.1 pc = .ok (.invokespecial i, 3)) (ok : OKI t.1.cls i t' na) (hR : rmf t t') (hna : As.length = na) (hst : st = As.reverse ++ .ref b :: rest) (hW9 : (rest.map fun v => v.category).sum ≤ 8) (hk' : k = k' + k2) (hn' : n = n' + n2) (ct : Ct l D tys t' k2 n2 (.ref b :: As) M Q') (h : ∀ r M', Q' r M' → V l D tys t k' n' (pc + 3) lv (r.toList ++ rest) M' Q) : V l D tys t k n pc lv st M Q := fun A p e s m args below meth c C k0 n0 H locs cells slots ls hM hS hl hk hn => by
  subst hk'; subst hn'
  obtain ⟨⟨o1, o2, o3⟩, o4, o5, o6, o7⟩ := ok
  refine V_back (va_runI (As := As) (rest := rest) C.1 (ct A) ⟨by have z : CallB (mt_rm t k0 n0) s args t.1.cls i t'.1 t'.2.1 t'.2.2.1 t'.2.2.2.1 (mt_ws t') (mt_rm t' k2 n2) k2 n2 na := (callB_of na C.1.2.2.2.2 (gi_ws o1) rfl rfl rfl (gw_ts C.1.2.2.2.2 o2) (gw_ts C.1.2.2.2.2 o4) o3 hR); rw [o7] at z; exact z, o6, gw_ts C.1.2.2.2.2 o5⟩ ⟨blind_M, pre_M C.2.2.2.2.1 C.2.2.2.2.2 hS hM⟩ rfl hna hl.1 hst (lv_room hW9) hd ⟨show cells + k2 ≤ k0 by omega, show slots + n2 ≤ n0 by omega⟩) hS (fun r M' H1 locs1 hq hM1 hS1 => h r M' hq A p e s m args below meth c C k0 n0 H1 locs1 (cells + k2) (slots + n2) ls hM1 hS1 hl (by omega) (by omega))
theorem V_callIN {i na : Nat} {As : List Value} {k' n' k2 n2 : Nat} {Q' : Option Value → MP → Prop} {b : Nat} (hd : decode t.2.1 pc = .ok (.invokespecial i, 3)) (ok : OKIN t.1.cls i t' na) (hR : rmf t t') (hna : As.length = na) (hst : st = As.reverse ++ .ref b :: rest) (hW9 : (rest.map fun v => v.category).sum ≤ 8) (hk' : k = k' + k2) (hn' : n = n' + n2) (ct : Ct l D tys t' k2 n2 (.ref b :: As) M Q') (h : ∀ r M', Q' r M' → V l D tys t k' n' (pc + 3) lv (r.toList ++ rest) M' Q) : V l D tys t k n pc lv st M Q := fun A p e s m args below meth c C k0 n0 H locs cells slots ls hM hS hl hk hn => by
  subst hk'; subst hn'
  obtain ⟨⟨o1, o2, o3⟩, ⟨host, o4⟩, o5, o6, o7⟩ := ok
  refine V_back (va_runIN (As := As) (rest := rest) C.1 (ct A) ⟨by have z : va_CN (mt_rm t k0 n0) s args t.1.cls i t'.1 host t'.2.1 t'.2.2.1 t'.2.2.2.1 (mt_ws t') (mt_rm t' k2 n2) k2 n2 na := (va_cnB na C.1.2.2.2.2 (gi_ws o1) rfl rfl rfl (C.2.2.2.2.1.2 _ o4) (gw_ts C.1.2.2.2.2 o2) o3 hR); rw [o7] at z; exact z, o6, gw_ts C.1.2.2.2.2 o5⟩ ⟨blind_M, pre_M C.2.2.2.2.1 C.2.2.2.2.2 hS hM⟩ rfl hna hl.1 hst (lv_room hW9) hd ⟨show cells + k2 ≤ k0 by omega, show slots + n2 ≤ n0 by omega⟩) hS (fun r M' H1 locs1 hq hM1 hS1 => h r M' hq A p e s m args below meth c C k0 n0 H1 locs1 (cells + k2) (slots + n2) ls hM1 hS1 hl (by omega) (by omega))
end VH
end
section
section MA
variable {p : Program} {l : Launch} {e : Env} {R : Room} {s : State} {m : MethodId} {args : Array Value} {below : List Frame} {meth : Method} {c : Code} {H : Heap} {locs : List Loc} {cells slots : Nat} {Q : State → Prop}
variable {cc : ByteArray} {pc : Nat} {ls : Array Slot} {rest : List Value} {D : va_G} {cl : List vw_C} {A : Nat → Prop} {a : Nat} {tys : List (ClassId × FieldType)} {M : Nat → Option va_E} {H0 : Heap} {nL : Nat} {Ts : List Cond} {own : String}
theorem mw_last (S : CallFix p m c cc nL s args Ts own) (hK : va_K D cl tys s) (hM : mw D cl A M H) (hS : va_S A H0 H locs) (t0 : Nat) {cA : ClassId} {n : Nat} {f : Nat → Int64} (ha : M a = some (.inl (cA, n, .inr (.inl f)))) (ht : tys[t0]? = some (cA, .long)) {i : Int32} {x : Int64} (hin : vp_in i n) (hdg : decode cc pc = .ok (.lastore, 1))
    (kk : ∀ (H1 : Heap) (locs1 : List Loc), mw D cl A (mu M a (.inl (cA, n, .inr (.inl (vp_updL f i.toNatClampNeg x))))) H1 → va_S A H0 H1 locs1 → W p l e R s m args below meth c H1 locs1 cells slots Q (F0 m (pc + 1) ls rest)) : W p l e R s m args below meth c H locs cells slots Q (F0 m pc ls (.long x :: .int i :: .ref a :: rest)) := by
  obtain ⟨ws, j, hP, hD, hj, hb⟩ := mw_open hM ha
  exact va_last S.1 S.2.1 hK hP hD hS j t0 hj ht hin hdg (fun H1 locs1 hP1 hD1 hS1 => kk H1 locs1 (hb _ H1 hP1 hD1) hS1)
/-- two cells of the world at once -/
theorem mw_open2 (hM : mw D cl A M H) {b : Nat} {e1 e2 : va_E} (ha : M a = some e1) (hb : M b = some e2) : ∃ (ws : va_W) (i j : Nat), va_P D cl ws H ∧ va_D A ws ∧ ws[i]? = some (a, e1) ∧ ws[j]? = some (b, e2) ∧ ∀ (e' : va_E) (H1 : Heap), va_P D cl (ws.set i (a, e')) H1 → va_D A (ws.set i (a, e')) → mw D cl A (mu M a e') H1 := by
  obtain ⟨L, hL, hP, hD⟩ := hM
  have hm : a ∈ L := (hL a).mpr (by rw [ha]; exact fun q => by cases q)
  have hm2 : b ∈ L := (hL b).mpr (by rw [hb]; exact fun q => by cases q)
  obtain ⟨i, hi⟩ := va_pl_get (X := []) (f := mg M) hm
  obtain ⟨j, hj⟩ := va_pl_get (X := []) (f := mg M) hm2
  have hg : mg M a = e1 := by unfold mg; rw [ha]; rfl
  have hg2 : mg M b = e2 := by unfold mg; rw [hb]; rfl
  refine ⟨va_pl L (mg M), i, j, hP, hD, by rw [← hg]; exact hi, by rw [← hg2]; exact hj, fun e' H1 hP1 hD1 => ⟨L, mw_mu hL hm, ?_, ?_⟩⟩
  · have h2 := va_pl_set (X := []) (f := mg M) (e := e') hD hm hi
    rw [mg_mu, ← (show (va_pl L (mg M)).set i (a, e') = va_pl L (va_up (mg M) a e') from h2)]; exact hP1
  · have h2 := va_pl_set (X := []) (f := mg M) (e := e') hD hm hi
    rw [mg_mu, ← (show (va_pl L (mg M)).set i (a, e') = va_pl L (va_up (mg M) a e') from h2)]; exact hD1
theorem mw_astq (S : CallFix p m c cc nL s args Ts own) (hK : va_K D cl tys s) (hM : mw D cl A M H) (hS : va_S A H0 H locs) (t0 ci : Nat) {cA : ClassId} {r : vw_C} {n v : Nat} {vs : List Value} {f : Nat → Option Nat} (ha : M a = some (.inl (cA, n, .inr (.inr (.inr (.inr f)))))) (ht : tys[t0]? = some (cA, .object r.1)) (hv : M v = some (.inr (ci, vs))) (hc : cl[ci]? = some r) {i : Int32} (hin : vp_in i n) (hdg : decode cc pc = .ok (.aastore, 1))
    (kk : ∀ (H1 : Heap) (locs1 : List Loc), mw D cl A (mu M a (.inl (cA, n, .inr (.inr (.inr (.inr (va_up f i.toNatClampNeg (some v)))))))) H1 → va_S A H0 H1 locs1 → W p l e R s m args below meth c H1 locs1 cells slots Q (F0 m (pc + 1) ls rest)) : W p l e R s m args below meth c H locs cells slots Q (F0 m pc ls (.ref v :: .int i :: .ref a :: rest)) := by
  obtain ⟨ws, j, j2, hP, hD, hj, hj2, hb⟩ := mw_open2 hM ha hv
  exact va_astq S.1 S.2.1 hK hP hD hS j t0 j2 ci hj ht hj2 hc hin hdg (fun H1 locs1 hP1 hD1 hS1 => kk H1 locs1 (hb _ H1 hP1 hD1) hS1)
theorem va_K_last {cA : ClassId} {ty : FieldType} (h : va_K D cl (tys ++ [(cA, ty)]) s) : va_RA s cA ty := (h.2 tys.length (cA, ty) (by rw [List.getElem?_append_right (Nat.le_refl _)]; simp)).2
theorem va_RA_inj {cA cB : ClassId} {ty : FieldType} (h1 : va_RA s cA ty) (h2 : va_RA s cB ty) : cA = cB := by
  cases ty with
  | object C =>
    obtain ⟨_, _, _, _, _, e1⟩ := h1
    obtain ⟨_, _, _, _, _, e2⟩ := h2
    exact Option.some.inj (e1.symm.trans e2)
  | _ => exact Option.some.inj (h1.symm.trans h2)
theorem mw_newa (S : CallFix p m c cc nL s args Ts own) (hK : va_K D cl tys s) (hM : mw D cl A M H) (hS : va_S A H0 H locs) (hA : ∀ q, H0.size ≤ q → A q) (t0 : Nat) {atype : ArrayType} (harr : (Cond.arrayClass (newarray.typeOf atype)).before args s = true) {ty : FieldType} (hty : newarray.typeOf atype = ty) {cA : ClassId} (ht : tys[t0]? = some (cA, ty))
    {n : Int32} {N' : Nat} {a0 : vp_A} (ha : ∀ cA : ClassId, vp_cell cA a0 = arrV cA N' (fun _ => defaultValue ty)) (hn : ¬ n < 0) (hN : n.toNatClampNeg = N') (hbytes : N' * componentBytes ty ≤ 536870912) (hcells : cells + 1 ≤ R.cells) (hslots : slots + N' ≤ R.slots) (hdg : decode cc pc = .ok (.newarray atype, 2))
    (kk : ∀ (q : Nat) (H1 : Heap), M q = none → mw D cl A (mu M q (.inl (cA, a0))) H1 → va_S A H0 H1 locs → W p l e R s m args below meth c H1 locs (cells + 1) (slots + N') Q (F0 m (pc + 2) ls (.ref q :: rest))) : W p l e R s m args below meth c H locs cells slots Q (F0 m pc ls (.int n :: rest)) := by
  obtain ⟨ws, hP, hD, hb⟩ := mw_open_new hM
  refine va_newa S.1 S.2.1 harr hty hK hP hD hS hA ha hn hN hbytes hcells hslots hdg (fun q cB H1 hK1 hP1 hD1 hS1 => ?_)
  have hcc : cB = cA := va_RA_inj (va_K_last hK1) (hK.2 t0 _ ht).2
  subst hcc
  exact kk q H1 (hb q _ H1 hP1 hD1).1 (hb q _ H1 hP1 hD1).2 hS1
theorem mw_newq (S : CallFix p m c cc nL s args Ts own) (hK : va_K D cl tys s) (hM : mw D cl A M H) (hS : va_S A H0 H locs) (hA : ∀ q, H0.size ≤ q → A q) (t0 : Nat) {C : String} {index : Nat} (hcl : (Cond.classLink own index C).before args s = true) (hover : va_AO C s) {cA : ClassId} (ht : tys[t0]? = some (cA, .object C))
    {n : Int32} {N' : Nat} (hn : ¬ n < 0) (hN : n.toNatClampNeg = N') (hbytes : N' * 4 ≤ 536870912) (hcells : cells + 1 ≤ R.cells) (hslots : slots + N' ≤ R.slots) (hdg : decode cc pc = .ok (.anewarray index, 3))
    (kk : ∀ (q : Nat) (H1 : Heap), M q = none → mw D cl A (mu M q (.inl (cA, N', .inr (.inr (.inr (.inr (fun _ => none))))))) H1 → va_S A H0 H1 locs → W p l e R s m args below meth c H1 locs (cells + 1) (slots + N') Q (F0 m (pc + 3) ls (.ref q :: rest))) : W p l e R s m args below meth c H locs cells slots Q (F0 m pc ls (.int n :: rest)) := by
  obtain ⟨ws, hP, hD, hb⟩ := mw_open_new hM
  refine va_newq S.1 S.2.1 S.2.2.2.1 hcl hover hK hP hD hS hA hn hN hbytes hcells hslots hdg (fun q cB H1 hK1 hP1 hD1 hS1 => ?_)
  have hcc : cB = cA := va_RA_inj (va_K_last hK1) (hK.2 t0 _ ht).2
  subst hcc
  exact kk q H1 (hb q _ H1 hP1 hD1).1 (hb q _ H1 hP1 hD1).2 hS1
end MA
section VA
variable {l : Launch} {D : va_G} {ac : Nat → ClassId} {t : MT} {k n pc : Nat} {lv : List (Nat × Value)} {st : List Value} {M : MP} {Q : Option Value → MP → Prop}
theorem V_iald {a N : Nat} {f : Nat → Int32} {i : Int32} (hd : decode t.2.1 pc = .ok (.iaload, 1)) (ha : M a = some (.inl (ac 0, N, .inl f))) (hin : vp_in i N) (h : V l D (tyl ac) t k n (pc + 1) lv (.int (f i.toNatClampNeg) :: st) M Q) : V l D (tyl ac) t k n pc lv (.int i :: .ref a :: st) M Q := fun A p e s m args below meth c C k0 n0 H locs cells slots ls hM hS hl hk hn => mw_iald C.1 C.2.2.2.2.1.1 hM 0 ha rfl hin hd (h A p e s m args below meth c C k0 n0 H locs cells slots ls hM hS hl hk hn)
theorem V_bald {a N : Nat} {f : Nat → Int32} {i : Int32} (hd : decode t.2.1 pc = .ok (.baload, 1)) (ha : M a = some (.inl (ac 1, N, .inl f))) (hin : vp_in i N) (h : V l D (tyl ac) t k n (pc + 1) lv (.int (f i.toNatClampNeg) :: st) M Q) : V l D (tyl ac) t k n pc lv (.int i :: .ref a :: st) M Q := fun A p e s m args below meth c C k0 n0 H locs cells slots ls hM hS hl hk hn => mw_bald C.1 C.2.2.2.2.1.1 hM 1 ha rfl hin hd (h A p e s m args below meth c C k0 n0 H locs cells slots ls hM hS hl hk hn)
theorem V_zald {a N : Nat} {f : Nat → Int32} {i : Int32} (hd : decode t.2.1 pc = .ok (.baload, 1)) (ha : M a = some (.inl (ac 2, N, .inl f))) (hin : vp_in i N) (h : V l D (tyl ac) t k n (pc + 1) lv (.int (f i.toNatClampNeg) :: st) M Q) : V l D (tyl ac) t k n pc lv (.int i :: .ref a :: st) M Q := fun A p e s m args below meth c C k0 n0 H locs cells slots ls hM hS hl hk hn => mw_zald C.1 C.2.2.2.2.1.1 hM 2 ha rfl hin hd (h A p e s m args below meth c C k0 n0 H locs cells slots ls hM hS hl hk hn)
theorem V_lald {a N : Nat} {f : Nat → Int64} {i : Int32} (hd : decode t.2.1 pc = .ok (.laload, 1)) (ha : M a = some (.inl (ac 3, N, .inr (.inl f)))) (hin : vp_in i N) (h : V l D (tyl ac) t k n (pc + 1) lv (.long (f i.toNatClampNeg) :: st) M Q) : V l D (tyl ac) t k n pc lv (.int i :: .ref a :: st) M Q := fun A p e s m args below meth c C k0 n0 H locs cells slots ls hM hS hl hk hn => mw_lald C.1 C.2.2.2.2.1.1 hM 3 ha rfl hin hd (h A p e s m args below meth c C k0 n0 H locs cells slots ls hM hS hl hk hn)
theorem V_aald {a N : Nat} {f : Nat → Option Nat} {i : Int32} (hd : decode t.2.1 pc = .ok (.aaload, 1)) (ha : M a = some (.inl (ac 4, N, .inr (.inr (.inr (.inr f)))))) (hin : vp_in i N) (h : V l D (tyl ac) t k n (pc + 1) lv (va_rf (f i.toNatClampNeg) :: st) M Q) : V l D (tyl ac) t k n pc lv (.int i :: .ref a :: st) M Q := fun A p e s m args below meth c C k0 n0 H locs cells slots ls hM hS hl hk hn => mw_aldq C.1 C.2.2.2.2.1.1 hM 4 ha rfl hin hd (h A p e s m args below meth c C k0 n0 H locs cells slots ls hM hS hl hk hn)
theorem V_alen {a : Nat} {j : Nat} {ty : FieldType} {x : vp_A} {v : Int32} (hd : decode t.2.1 pc = .ok (.arraylength, 1)) (hj : (tyl ac)[j]? = some (ac j, ty)) (ha : M a = some (.inl (ac j, x))) (hv : Int32.ofNat x.1 = v) (h : V l D (tyl ac) t k n (pc + 1) lv (.int v :: st) M Q) : V l D (tyl ac) t k n pc lv (.ref a :: st) M Q := fun A p e s m args below meth c C k0 n0 H locs cells slots ls hM hS hl hk hn => mw_alen C.1 C.2.2.2.2.1.1 hM j ha hj hv hd (h A p e s m args below meth c C k0 n0 H locs cells slots ls hM hS hl hk hn)
theorem V_iast {a N : Nat} {f : Nat → Int32} {i : Int32} {x : Int32} (hd : decode t.2.1 pc = .ok (.iastore, 1)) (ha : M a = some (.inl (ac 0, N, .inl f))) (hin : vp_in i N) (h : V l D (tyl ac) t k n (pc + 1) lv st (mu M a (.inl (ac 0, N, .inl (upd f i.toNatClampNeg (vp_nar .int x))))) Q) : V l D (tyl ac) t k n pc lv (.int x :: .int i :: .ref a :: st) M Q := fun A p e s m args below meth c C k0 n0 H locs cells slots ls hM hS hl hk hn => mw_iast C.1 C.2.2.2.2.1.1 hM hS 0 ha rfl hin hd (fun H locs hM hS => h A p e s m args below meth c C k0 n0 H locs cells slots ls hM hS hl hk hn)
theorem V_bast {a N : Nat} {f : Nat → Int32} {i : Int32} {x : Int32} (hd : decode t.2.1 pc = .ok (.bastore, 1)) (ha : M a = some (.inl (ac 1, N, .inl f))) (hin : vp_in i N) (h : V l D (tyl ac) t k n (pc + 1) lv st (mu M a (.inl (ac 1, N, .inl (upd f i.toNatClampNeg (vp_nar .byte x))))) Q) : V l D (tyl ac) t k n pc lv (.int x :: .int i :: .ref a :: st) M Q := fun A p e s m args below meth c C k0 n0 H locs cells slots ls hM hS hl hk hn => mw_bast C.1 C.2.2.2.2.1.1 hM hS 1 ha rfl hin hd (fun H locs hM hS => h A p e s m args below meth c C k0 n0 H locs cells slots ls hM hS hl hk hn)
theorem V_zast {a N : Nat} {f : Nat → Int32} {i : Int32} {x : Int32} (hd : decode t.2.1 pc = .ok (.bastore, 1)) (ha : M a = some (.inl (ac 2, N, .inl f))) (hin : vp_in i N) (h : V l D (tyl ac) t k n (pc + 1) lv st (mu M a (.inl (ac 2, N, .inl (upd f i.toNatClampNeg (vp_nar .boolean x))))) Q) : V l D (tyl ac) t k n pc lv (.int x :: .int i :: .ref a :: st) M Q := fun A p e s m args below meth c C k0 n0 H locs cells slots ls hM hS hl hk hn => mw_zast C.1 C.2.2.2.2.1.1 hM hS 2 ha rfl hin hd (fun H locs hM hS => h A p e s m args below meth c C k0 n0 H locs cells slots ls hM hS hl hk hn)
theorem V_last {a N : Nat} {f : Nat → Int64} {i : Int32} {x : Int64} (hd : decode t.2.1 pc = .ok (.lastore, 1)) (ha : M a = some (.inl (ac 3, N, .inr (.inl f)))) (hin : vp_in i N) (h : V l D (tyl ac) t k n (pc + 1) lv st (mu M a (.inl (ac 3, N, .inr (.inl (vp_updL f i.toNatClampNeg x))))) Q) : V l D (tyl ac) t k n pc lv (.long x :: .int i :: .ref a :: st) M Q := fun A p e s m args below meth c C k0 n0 H locs cells slots ls hM hS hl hk hn => mw_last C.1 C.2.2.2.2.1.1 hM hS 3 ha rfl hin hd (fun H locs hM hS => h A p e s m args below meth c C k0 n0 H locs cells slots ls hM hS hl hk hn)
theorem V_aastN {a N : Nat} {f : Nat → Option Nat} {i : Int32} (hd : decode t.2.1 pc = .ok (.aastore, 1)) (ha : M a = some (.inl (ac 4, N, .inr (.inr (.inr (.inr f)))))) (hin : vp_in i N) (h : V l D (tyl ac) t k n (pc + 1) lv st (mu M a (.inl (ac 4, N, .inr (.inr (.inr (.inr (va_up f i.toNatClampNeg none))))))) Q) : V l D (tyl ac) t k n pc lv (.null :: .int i :: .ref a :: st) M Q := fun A p e s m args below meth c C k0 n0 H locs cells slots ls hM hS hl hk hn => mw_astqN C.1 C.2.2.2.2.1.1 hM hS 4 ha rfl hin hd (fun H locs hM hS => h A p e s m args below meth c C k0 n0 H locs cells slots ls hM hS hl hk hn)
theorem V_aast {a v N : Nat} {vs : List Value} {f : Nat → Option Nat} {i : Int32} (hd : decode t.2.1 pc = .ok (.aastore, 1)) (ha : M a = some (.inl (ac 4, N, .inr (.inr (.inr (.inr f)))))) (hv : M v = some (.inr (1, vs))) (hin : vp_in i N) (h : V l D (tyl ac) t k n (pc + 1) lv st (mu M a (.inl (ac 4, N, .inr (.inr (.inr (.inr (va_up f i.toNatClampNeg (some v)))))))) Q) : V l D (tyl ac) t k n pc lv (.ref v :: .int i :: .ref a :: st) M Q := fun A p e s m args below meth c C k0 n0 H locs cells slots ls hM hS hl hk hn => mw_astq (r := (R_Box, T_Box, 7)) C.1 C.2.2.2.2.1.1 hM hS 4 1 ha rfl hv rfl hin hd (fun H locs hM hS => h A p e s m args below meth c C k0 n0 H locs cells slots ls hM hS hl hk hn)
theorem V_newi {N k' n' : Nat} {x : Int32} (hd : decode t.2.1 pc = .ok (.newarray .int, 2)) (hw : Cond.arrayClass .int ∈ gw) (hx : ¬ x < 0) (hN : x.toNatClampNeg = N) (hb : N * 8 ≤ 536870912) (hk' : k = k' + 1) (hn' : n = n' + N) (h : ∀ q, M q = none → V l D (tyl ac) t k' n' (pc + 2) lv (.ref q :: st) (mu M q (.inl (ac 0, N, .inl (fun _ => 0)))) Q) : V l D (tyl ac) t k n pc lv (.int x :: st) M Q := fun A p e s m args below meth c C k0 n0 H locs cells slots ls hM hS hl hk hn => by
  subst hk'; subst hn'
  exact mw_newa (atype := .int) (ty := .int) (a0 := (N, .inl (fun _ => 0))) C.1 C.2.2.2.2.1.1 hM hS C.2.2.2.2.2 0 (gw_ts C.1.2.2.2.2 hw) rfl rfl (fun _ => rfl) hx hN (by simp only [componentBytes]; omega) (show cells + 1 ≤ k0 by omega) (show slots + N ≤ n0 by omega) hd (fun q H1 hq hM1 hS1 => h q hq A p e s m args below meth c C k0 n0 H1 locs (cells + 1) (slots + N) ls hM1 hS1 hl (by omega) (by omega))
theorem V_newb {N k' n' : Nat} {x : Int32} (hd : decode t.2.1 pc = .ok (.newarray .byte, 2)) (hw : Cond.arrayClass .byte ∈ gw) (hx : ¬ x < 0) (hN : x.toNatClampNeg = N) (hb : N * 8 ≤ 536870912) (hk' : k = k' + 1) (hn' : n = n' + N) (h : ∀ q, M q = none → V l D (tyl ac) t k' n' (pc + 2) lv (.ref q :: st) (mu M q (.inl (ac 1, N, .inl (fun _ => 0)))) Q) : V l D (tyl ac) t k n pc lv (.int x :: st) M Q := fun A p e s m args below meth c C k0 n0 H locs cells slots ls hM hS hl hk hn => by
  subst hk'; subst hn'
  exact mw_newa (atype := .byte) (ty := .byte) (a0 := (N, .inl (fun _ => 0))) C.1 C.2.2.2.2.1.1 hM hS C.2.2.2.2.2 1 (gw_ts C.1.2.2.2.2 hw) rfl rfl (fun _ => rfl) hx hN (by simp only [componentBytes]; omega) (show cells + 1 ≤ k0 by omega) (show slots + N ≤ n0 by omega) hd (fun q H1 hq hM1 hS1 => h q hq A p e s m args below meth c C k0 n0 H1 locs (cells + 1) (slots + N) ls hM1 hS1 hl (by omega) (by omega))
theorem V_newz {N k' n' : Nat} {x : Int32} (hd : decode t.2.1 pc = .ok (.newarray .boolean, 2)) (hw : Cond.arrayClass .boolean ∈ gw) (hx : ¬ x < 0) (hN : x.toNatClampNeg = N) (hb : N * 8 ≤ 536870912) (hk' : k = k' + 1) (hn' : n = n' + N) (h : ∀ q, M q = none → V l D (tyl ac) t k' n' (pc + 2) lv (.ref q :: st) (mu M q (.inl (ac 2, N, .inl (fun _ => 0)))) Q) : V l D (tyl ac) t k n pc lv (.int x :: st) M Q := fun A p e s m args below meth c C k0 n0 H locs cells slots ls hM hS hl hk hn => by
  subst hk'; subst hn'
  exact mw_newa (atype := .boolean) (ty := .boolean) (a0 := (N, .inl (fun _ => 0))) C.1 C.2.2.2.2.1.1 hM hS C.2.2.2.2.2 2 (gw_ts C.1.2.2.2.2 hw) rfl rfl (fun _ => rfl) hx hN (by simp only [componentBytes]; omega) (show cells + 1 ≤ k0 by omega) (show slots + N ≤ n0 by omega) hd (fun q H1 hq hM1 hS1 => h q hq A p e s m args below meth c C k0 n0 H1 locs (cells + 1) (slots + N) ls hM1 hS1 hl (by omega) (by omega))
theorem V_newl {N k' n' : Nat} {x : Int32} (hd : decode t.2.1 pc = .ok (.newarray .long, 2)) (hw : Cond.arrayClass .long ∈ gw) (hx : ¬ x < 0) (hN : x.toNatClampNeg = N) (hb : N * 8 ≤ 536870912) (hk' : k = k' + 1) (hn' : n = n' + N) (h : ∀ q, M q = none → V l D (tyl ac) t k' n' (pc + 2) lv (.ref q :: st) (mu M q (.inl (ac 3, N, .inr (.inl (fun _ => 0))))) Q) : V l D (tyl ac) t k n pc lv (.int x :: st) M Q := fun A p e s m args below meth c C k0 n0 H locs cells slots ls hM hS hl hk hn => by
  subst hk'; subst hn'
  exact mw_newa (atype := .long) (ty := .long) (a0 := (N, .inr (.inl (fun _ => 0)))) C.1 C.2.2.2.2.1.1 hM hS C.2.2.2.2.2 3 (gw_ts C.1.2.2.2.2 hw) rfl rfl (fun _ => rfl) hx hN (by simp only [componentBytes]; omega) (show cells + 1 ≤ k0 by omega) (show slots + N ≤ n0 by omega) hd (fun q H1 hq hM1 hS1 => h q hq A p e s m args below meth c C k0 n0 H1 locs (cells + 1) (slots + N) ls hM1 hS1 hl (by omega) (by omega))
theorem V_newq {N k' n' i : Nat} {x : Int32} (hd : decode t.2.1 pc = .ok (.anewarray i, 3)) (hw : Cond.classLink t.1.cls i R_Box ∈ gw) (hov : Cond.arrayOver (.object R_Box) ∈ nw) (hx : ¬ x < 0) (hN : x.toNatClampNeg = N) (hb : N * 4 ≤ 536870912) (hk' : k = k' + 1) (hn' : n = n' + N) (h : ∀ q, M q = none → V l D (tyl ac) t k' n' (pc + 3) lv (.ref q :: st) (mu M q (.inl (ac 4, N, .inr (.inr (.inr (.inr (fun _ => none))))))) Q) : V l D (tyl ac) t k n pc lv (.int x :: st) M Q := fun A p e s m args below meth c C k0 n0 H locs cells slots ls hM hS hl hk hn => by
  subst hk'; subst hn'
  exact mw_newq C.1 C.2.2.2.2.1.1 hM hS C.2.2.2.2.2 4 (gw_ts C.1.2.2.2.2 hw) (C.2.2.2.2.1.2 _ hov) rfl hx hN hb (show cells + 1 ≤ k0 by omega) (show slots + N ≤ n0 by omega) hd (fun q H1 hq hM1 hS1 => h q hq A p e s m args below meth c C k0 n0 H1 locs (cells + 1) (slots + N) ls hM1 hS1 hl (by omega) (by omega))
theorem V_maxi {i : Nat} {x y : Int32} (hd : decode t.2.1 pc = .ok (.invokestatic i, 3)) (h1 : Cond.methodLink t.1.cls i Lib.Math.max.name ∈ gw) (h2 : Cond.static Lib.Math.max.name ∈ gw) (h3 : Cond.initialized "java/lang/Math" ∈ gw) (h4 : Cond.code Lib.Math.max.name Lib.Math.max.code 2 (some .int) ∈ gw) (hfr : 1 ≤ t.2.2.2.2.1) (hlo : (st.map fun v => v.category).sum + 13 ≤ t.2.2.2.2.2) (h : V l D (tyl ac) t k n (pc + 3) lv (.int (if x < y then y else x) :: st) M Q) : V l D (tyl ac) t k n pc lv (.int y :: .int x :: st) M Q := fun A p e s m args below meth c C k0 n0 H locs cells slots ls hM hS hl hk hn => va_mmax C.1.1 C.1.2.1 (C.1.2.2.1.trans hl.1.symm) C.1.2.2.2.1 (gw_ts C.1.2.2.2.2 h1) (gw_ts C.1.2.2.2.2 h2) (gw_ts C.1.2.2.2.2 h3) (gw_ts C.1.2.2.2.2 h4) hfr hlo (show cells ≤ k0 by omega) (show slots ≤ n0 by omega) hd (h A p e s m args below meth c C k0 n0 H locs cells slots ls hM hS hl hk hn)
theorem V_maxl {i : Nat} {x y : Int64} (hd : decode t.2.1 pc = .ok (.invokestatic i, 3)) (h1 : Cond.methodLink t.1.cls i Lib.MathLoose.max_long.x ∈ gw) (h2 : Cond.static Lib.MathLoose.max_long.x ∈ gw) (h3 : Cond.initialized "java/lang/Math" ∈ gw) (h4 : Cond.code Lib.MathLoose.max_long.x Lib.MathLoose.max_long.code 4 (some .long) ∈ gw) (hfr : 1 ≤ t.2.2.2.2.1) (hlo : (st.map fun v => v.category).sum + 15 ≤ t.2.2.2.2.2) (h : V l D (tyl ac) t k n (pc + 3) lv (.long (if y < x then x else y) :: st) M Q) : V l D (tyl ac) t k n pc lv (.long y :: .long x :: st) M Q := fun A p e s m args below meth c C k0 n0 H locs cells slots ls hM hS hl hk hn => va_mmax_long C.1.1 C.1.2.1 (C.1.2.2.1.trans hl.1.symm) C.1.2.2.2.1 (gw_ts C.1.2.2.2.2 h1) (gw_ts C.1.2.2.2.2 h2) (gw_ts C.1.2.2.2.2 h3) (gw_ts C.1.2.2.2.2 h4) hfr hlo (show cells ≤ k0 by omega) (show slots ≤ n0 by omega) hd (h A p e s m args below meth c C k0 n0 H locs cells slots ls hM hS hl hk hn)
theorem V_tabOut {d lo hi : Int} {offs : Array Int} {len : Nat} {x : Int32} (tgt : Nat) (hd : decode t.2.1 pc = .ok (.tableswitch d lo hi offs, len)) (hx : x.toInt < lo ∨ hi < x.toInt) (ht : (pc : Int) + d = (tgt : Int)) (h : V l D (tyl ac) t k n tgt lv st M Q) : V l D (tyl ac) t k n pc lv (.int x :: st) M Q := fun A p e s m args below meth c C k0 n0 H locs cells slots ls hM hS hl hk hn => lv_tableOut C.1.1 C.1.2.1 hd hx ht (h A p e s m args below meth c C k0 n0 H locs cells slots ls hM hS hl hk hn)
theorem V_tabIn {d lo hi off : Int} {offs : Array Int} {len : Nat} {x : Int32} (tgt : Nat) (hd : decode t.2.1 pc = .ok (.tableswitch d lo hi offs, len)) (h1 : ¬ x.toInt < lo) (h2 : ¬ hi < x.toInt) (ho : offs[(x.toInt - lo).toNat]? = some off) (ht : (pc : Int) + off = (tgt : Int)) (h : V l D (tyl ac) t k n tgt lv st M Q) : V l D (tyl ac) t k n pc lv (.int x :: st) M Q := fun A p e s m args below meth c C k0 n0 H locs cells slots ls hM hS hl hk hn => lv_tableIn C.1.1 C.1.2.1 hd h1 h2 ho ht (h A p e s m args below meth c C k0 n0 H locs cells slots ls hM hS hl hk hn)
theorem V_irem {x y : Int32} (hd : decode t.2.1 pc = .ok (.irem, 1)) (hy : ¬ y = 0) (h : V l D (tyl ac) t k n (pc + 1) lv (.int (x - x / y * y) :: st) M Q) : V l D (tyl ac) t k n pc lv (.int y :: .int x :: st) M Q := fun A p e s m args below meth c C k0 n0 H locs cells slots ls hM hS hl hk hn => lv_irem C.1.1 C.1.2.1 hd hy (h A p e s m args below meth c C k0 n0 H locs cells slots ls hM hS hl hk hn)
end VA
end
section
abbrev b_Byt_init : ByteArray := prog_3_method_1_code
def y_Byt_init : MethodName := ⟨R_Byt, "<init>", "()V"⟩
abbrev t_Byt_init : MT := (y_Byt_init, b_Byt_init, 1, none, 1, 12)
abbrev b_Byt_add : ByteArray := prog_3_method_2_code
def y_Byt_add : MethodName := ⟨R_Byt, "add", "(II)V"⟩
abbrev t_Byt_add : MT := (y_Byt_add, b_Byt_add, 4, none, 2, 65)
abbrev b_Byt_get : ByteArray := prog_3_method_3_code
def y_Byt_get : MethodName := ⟨R_Byt, "get", "(I)I"⟩
abbrev t_Byt_get : MT := (y_Byt_get, b_Byt_get, 2, (some .int), 0, 0)
abbrev b_Byt_cutTo : ByteArray := prog_3_method_4_code
def y_Byt_cutTo : MethodName := ⟨R_Byt, "cutTo", "(I)V"⟩
abbrev t_Byt_cutTo : MT := (y_Byt_cutTo, b_Byt_cutTo, 2, none, 0, 0)
abbrev b_Fon_init : ByteArray := prog_4_method_1_code
def y_Fon_init : MethodName := ⟨R_Fon, "<init>", "()V"⟩
abbrev t_Fon_init : MT := (y_Fon_init, b_Fon_init, 1, none, 1, 12)
abbrev b_Fon_keep : ByteArray := prog_4_method_2_code
def y_Fon_keep : MethodName := ⟨R_Fon, "keep", "(III)V"⟩
abbrev t_Fon_keep : MT := (y_Fon_keep, b_Fon_keep, 4, none, 1, 20)
abbrev b_Fon_isUsed : ByteArray := prog_4_method_3_code
def y_Fon_isUsed : MethodName := ⟨R_Fon, "isUsed", "(I)Z"⟩
abbrev t_Fon_isUsed : MT := (y_Fon_isUsed, b_Fon_isUsed, 2, (some .boolean), 1, 20)
abbrev b_Fon_write : ByteArray := prog_4_method_4_code
def y_Fon_write : MethodName := ⟨R_Fon, "write", "(ILPageFile$Bytes;)V"⟩
abbrev t_Fon_write : MT := (y_Fon_write, b_Fon_write, 3, none, 3, 88)
abbrev b_Trk_init : ByteArray := prog_9_method_1_code
def y_Trk_init : MethodName := ⟨R_Trk, "<init>", "(I)V"⟩
abbrev t_Trk_init : MT := (y_Trk_init, b_Trk_init, 2, none, 1, 12)
abbrev b_Trk_restart : ByteArray := prog_9_method_2_code
def y_Trk_restart : MethodName := ⟨R_Trk, "restart", "()V"⟩
abbrev t_Trk_restart : MT := (y_Trk_restart, b_Trk_restart, 1, none, 0, 0)
abbrev b_Trk_become : ByteArray := prog_9_method_3_code
def y_Trk_become : MethodName := ⟨R_Trk, "become", "(LPageFile$Track;)V"⟩
abbrev t_Trk_become : MT := (y_Trk_become, b_Trk_become, 2, none, 0, 0)
abbrev b_Trk_goTo : ByteArray := prog_9_method_4_code
def y_Trk_goTo : MethodName := ⟨R_Trk, "goTo", "(ILPageFile$Bytes;)Z"⟩
abbrev t_Trk_goTo : MT := (y_Trk_goTo, b_Trk_goTo, 8, (some .boolean), 3, 88)
abbrev b_Trk_fewestBytes : ByteArray := prog_9_method_5_code
def y_Trk_fewestBytes : MethodName := ⟨R_Trk, "fewestBytes", "(J)I"⟩
abbrev t_Trk_fewestBytes : MT := (y_Trk_fewestBytes, b_Trk_fewestBytes, 2, (some .int), 0, 0)
abbrev b_Itm_init : ByteArray := prog_6_method_1_code
def y_Itm_init : MethodName := ⟨R_Itm, "<init>", "(IIII)V"⟩
abbrev t_Itm_init : MT := (y_Itm_init, b_Itm_init, 5, none, 1, 12)
abbrev b_Box_init : ByteArray := prog_2_method_1_code
def y_Box_init : MethodName := ⟨R_Box, "<init>", "(LPageFile$OpenList;III)V"⟩
abbrev t_Box_init : MT := (y_Box_init, b_Box_init, 5, none, 1, 12)
abbrev b_OpL_init : ByteArray := prog_7_method_1_code
def y_OpL_init : MethodName := ⟨R_OpL, "<init>", "(ZLPageFile$OpenList;)V"⟩
abbrev t_OpL_init : MT := (y_OpL_init, b_OpL_init, 3, none, 1, 12)
abbrev b_OpL_join : ByteArray := prog_7_method_2_code
def y_OpL_join : MethodName := ⟨R_OpL, "join", "(LPageFile$Item;)V"⟩
abbrev t_OpL_join : MT := (y_OpL_join, b_OpL_join, 2, none, 2, 44)
abbrev b_OpL_measureAcross : ByteArray := prog_7_method_3_code
def y_OpL_measureAcross : MethodName := ⟨R_OpL, "measureAcross", "(LPageFile$Item;)V"⟩
abbrev t_OpL_measureAcross : MT := (y_OpL_measureAcross, b_OpL_measureAcross, 2, none, 1, 23)
abbrev b_OpL_measureDown : ByteArray := prog_7_method_4_code
def y_OpL_measureDown : MethodName := ⟨R_OpL, "measureDown", "(LPageFile$Item;)V"⟩
abbrev t_OpL_measureDown : MT := (y_OpL_measureDown, b_OpL_measureDown, 2, none, 1, 23)
abbrev b_OpL_toBox : ByteArray := prog_7_method_5_code
def y_OpL_toBox : MethodName := ⟨R_OpL, "toBox", "()LPageFile$Box;"⟩
abbrev t_OpL_toBox : MT := (y_OpL_toBox, b_OpL_toBox, 1, (some (.object "PageFile$Box")), 2, 46)
abbrev b_Fra_init : ByteArray := prog_5_method_1_code
def y_Fra_init : MethodName := ⟨R_Fra, "<init>", "(LPageFile$Frame;)V"⟩
abbrev t_Fra_init : MT := (y_Fra_init, b_Fra_init, 2, none, 2, 33)
abbrev b_Fra_inside : ByteArray := prog_5_method_2_code
def y_Fra_inside : MethodName := ⟨R_Fra, "inside", "()LPageFile$Frame;"⟩
abbrev t_Fra_inside : MT := (y_Fra_inside, b_Fra_inside, 1, (some (.object "PageFile$Frame")), 3, 54)
abbrev b_Fra_begin : ByteArray := prog_5_method_3_code
def y_Fra_begin : MethodName := ⟨R_Fra, "begin", "(LPageFile$Box;LPageFile$Track;LPageFile$Track;)V"⟩
abbrev t_Fra_begin : MT := (y_Fra_begin, b_Fra_begin, 4, none, 1, 21)
abbrev b_Fra_widthOf : ByteArray := prog_5_method_4_code
def y_Fra_widthOf : MethodName := ⟨R_Fra, "widthOf", "(LPageFile$Item;)I"⟩
abbrev t_Fra_widthOf : MT := (y_Fra_widthOf, b_Fra_widthOf, 2, (some .int), 0, 0)
abbrev b_Fra_heightOf : ByteArray := prog_5_method_5_code
def y_Fra_heightOf : MethodName := ⟨R_Fra, "heightOf", "(LPageFile$Item;)I"⟩
abbrev t_Fra_heightOf : MT := (y_Fra_heightOf, b_Fra_heightOf, 2, (some .int), 0, 0)
abbrev b_Fra_depthOf : ByteArray := prog_5_method_6_code
def y_Fra_depthOf : MethodName := ⟨R_Fra, "depthOf", "(LPageFile$Item;)I"⟩
abbrev t_Fra_depthOf : MT := (y_Fra_depthOf, b_Fra_depthOf, 2, (some .int), 0, 0)
abbrev b_Fra_extentOf : ByteArray := prog_5_method_7_code
def y_Fra_extentOf : MethodName := ⟨R_Fra, "extentOf", "(LPageFile$Item;)J"⟩
abbrev t_Fra_extentOf : MT := (y_Fra_extentOf, b_Fra_extentOf, 2, (some .long), 1, 21)
abbrev b_Fra_rightOf : ByteArray := prog_5_method_8_code
def y_Fra_rightOf : MethodName := ⟨R_Fra, "rightOf", "(LPageFile$Item;)J"⟩
abbrev t_Fra_rightOf : MT := (y_Fra_rightOf, b_Fra_rightOf, 2, (some .long), 0, 0)
abbrev b_Fra_downOf : ByteArray := prog_5_method_9_code
def y_Fra_downOf : MethodName := ⟨R_Fra, "downOf", "(LPageFile$Item;)J"⟩
abbrev t_Fra_downOf : MT := (y_Fra_downOf, b_Fra_downOf, 2, (some .long), 2, 42)
abbrev b_Fra_behind : ByteArray := prog_5_method_10_code
def y_Fra_behind : MethodName := ⟨R_Fra, "behind", "(LPageFile$Item;)J"⟩
abbrev t_Fra_behind : MT := (y_Fra_behind, b_Fra_behind, 2, (some .long), 2, 42)
abbrev b_PgW_init : ByteArray := prog_8_method_1_code
def y_PgW_init : MethodName := ⟨R_PgW, "<init>", "()V"⟩
abbrev t_PgW_init : MT := (y_PgW_init, b_PgW_init, 1, none, 3, 54)
abbrev b_PgW_writeBox : ByteArray := prog_8_method_2_code
def y_PgW_writeBox : MethodName := ⟨R_PgW, "writeBox", "(LPageFile$Box;)Z"⟩
abbrev t_PgW_writeBox : MT := (y_PgW_writeBox, b_PgW_writeBox, 5, (some .boolean), 6, 165)
abbrev b_PgW_writeItem : ByteArray := prog_8_method_3_code
def y_PgW_writeItem : MethodName := ⟨R_PgW, "writeItem", "(LPageFile$Frame;LPageFile$Item;)LPageFile$Frame;"⟩
abbrev t_PgW_writeItem : MT := (y_PgW_writeItem, b_PgW_writeItem, 9, (some (.object "PageFile$Frame")), 5, 137)
abbrev b_PgW_canStand : ByteArray := prog_8_method_4_code
def y_PgW_canStand : MethodName := ⟨R_PgW, "canStand", "(LPageFile$Frame;LPageFile$Item;J)Z"⟩
abbrev t_PgW_canStand : MT := (y_PgW_canStand, b_PgW_canStand, 4, (some .boolean), 2, 42)
abbrev b_PgW_isWritten : ByteArray := prog_8_method_5_code
def y_PgW_isWritten : MethodName := ⟨R_PgW, "isWritten", "(LPageFile$Frame;LPageFile$Item;)Z"⟩
abbrev t_PgW_isWritten : MT := (y_PgW_isWritten, b_PgW_isWritten, 2, (some .boolean), 2, 42)
abbrev b_PgW_moveTo : ByteArray := prog_8_method_6_code
def y_PgW_moveTo : MethodName := ⟨R_PgW, "moveTo", "(II)V"⟩
abbrev t_PgW_moveTo : MT := (y_PgW_moveTo, b_PgW_moveTo, 3, none, 4, 115)
abbrev b_PgW_writeCharacter : ByteArray := prog_8_method_7_code
def y_PgW_writeCharacter : MethodName := ⟨R_PgW, "writeCharacter", "(LPageFile$Item;)V"⟩
abbrev t_PgW_writeCharacter : MT := (y_PgW_writeCharacter, b_PgW_writeCharacter, 2, none, 4, 110)
abbrev b_PgW_writeRule : ByteArray := prog_8_method_8_code
def y_PgW_writeRule : MethodName := ⟨R_PgW, "writeRule", "(LPageFile$Frame;LPageFile$Item;)V"⟩
abbrev t_PgW_writeRule : MT := (y_PgW_writeRule, b_PgW_writeRule, 3, none, 3, 88)
abbrev b_PgW_enter : ByteArray := prog_8_method_9_code
def y_PgW_enter : MethodName := ⟨R_PgW, "enter", "(LPageFile$Frame;LPageFile$Box;)LPageFile$Frame;"⟩
abbrev t_PgW_enter : MT := (y_PgW_enter, b_PgW_enter, 3, (some (.object "PageFile$Frame")), 3, 88)
abbrev b_PgW_leave : ByteArray := prog_8_method_10_code
def y_PgW_leave : MethodName := ⟨R_PgW, "leave", "(LPageFile$Frame;)LPageFile$Frame;"⟩
abbrev t_PgW_leave : MT := (y_PgW_leave, b_PgW_leave, 2, (some (.object "PageFile$Frame")), 3, 88)
abbrev b_PF_init : ByteArray := prog_1_method_1_code
def y_PF_init : MethodName := ⟨R_PF, "<init>", "()V"⟩
abbrev t_PF_init : MT := (y_PF_init, b_PF_init, 1, none, 4, 74)
abbrev b_PF_font : ByteArray := prog_1_method_2_code
def y_PF_font : MethodName := ⟨R_PF, "font", "(III)Z"⟩
abbrev t_PF_font : MT := (y_PF_font, b_PF_font, 4, (some .boolean), 2, 43)
abbrev b_PF_open : ByteArray := prog_1_method_3_code
def y_PF_open : MethodName := ⟨R_PF, "open", "(Z)Z"⟩
abbrev t_PF_open : MT := (y_PF_open, b_PF_open, 2, (some .boolean), 2, 34)
abbrev b_PF_character : ByteArray := prog_1_method_4_code
def y_PF_character : MethodName := ⟨R_PF, "character", "(IIIII)Z"⟩
abbrev t_PF_character : MT := (y_PF_character, b_PF_character, 7, (some .boolean), 3, 65)
abbrev b_PF_rule : ByteArray := prog_1_method_5_code
def y_PF_rule : MethodName := ⟨R_PF, "rule", "(IIII)Z"⟩
abbrev t_PF_rule : MT := (y_PF_rule, b_PF_rule, 7, (some .boolean), 3, 65)
abbrev b_PF_space : ByteArray := prog_1_method_6_code
def y_PF_space : MethodName := ⟨R_PF, "space", "(I)Z"⟩
abbrev t_PF_space : MT := (y_PF_space, b_PF_space, 2, (some .boolean), 3, 65)
abbrev b_PF_close : ByteArray := prog_1_method_7_code
def y_PF_close : MethodName := ⟨R_PF, "close", "(I)Z"⟩
abbrev t_PF_close : MT := (y_PF_close, b_PF_close, 3, (some .boolean), 3, 66)
abbrev b_PF_put : ByteArray := prog_1_method_8_code
def y_PF_put : MethodName := ⟨R_PF, "put", "(IIZ)Z"⟩
abbrev t_PF_put : MT := (y_PF_put, b_PF_put, 6, (some .boolean), 3, 65)
abbrev b_PF_ship : ByteArray := prog_1_method_9_code
def y_PF_ship : MethodName := ⟨R_PF, "ship", "(I)I"⟩
abbrev t_PF_ship : MT := (y_PF_ship, b_PF_ship, 3, (some .int), 8, 214)
abbrev b_PF_finish : ByteArray := prog_1_method_10_code
def y_PF_finish : MethodName := ⟨R_PF, "finish", "()I"⟩
abbrev t_PF_finish : MT := (y_PF_finish, b_PF_finish, 4, (some .int), 5, 128)
abbrev b_PF_byteAt : ByteArray := prog_1_method_11_code
def y_PF_byteAt : MethodName := ⟨R_PF, "byteAt", "(I)I"⟩
abbrev t_PF_byteAt : MT := (y_PF_byteAt, b_PF_byteAt, 2, (some .int), 1, 21)
abbrev b_PF_count : ByteArray := prog_1_method_12_code
def y_PF_count : MethodName := ⟨R_PF, "count", "(I)I"⟩
abbrev t_PF_count : MT := (y_PF_count, b_PF_count, 2, (some .int), 0, 0)
abbrev b_PF_size : ByteArray := prog_1_method_13_code
def y_PF_size : MethodName := ⟨R_PF, "size", "(II)I"⟩
abbrev t_PF_size : MT := (y_PF_size, b_PF_size, 4, (some .int), 2, 41)
abbrev b_PF_isSize : ByteArray := prog_1_method_14_code
def y_PF_isSize : MethodName := ⟨R_PF, "isSize", "(J)Z"⟩
abbrev t_PF_isSize : MT := (y_PF_isSize, b_PF_isSize, 2, (some .boolean), 0, 0)
abbrev b_PF_areSizes : ByteArray := prog_1_method_15_code
def y_PF_areSizes : MethodName := ⟨R_PF, "areSizes", "(JJJ)Z"⟩
abbrev t_PF_areSizes : MT := (y_PF_areSizes, b_PF_areSizes, 6, (some .boolean), 1, 21)
abbrev b_PF_isFont : ByteArray := prog_1_method_16_code
def y_PF_isFont : MethodName := ⟨R_PF, "isFont", "(I)Z"⟩
abbrev t_PF_isFont : MT := (y_PF_isFont, b_PF_isFont, 1, (some .boolean), 0, 0)
abbrev b_PF_isRegister : ByteArray := prog_1_method_17_code
def y_PF_isRegister : MethodName := ⟨R_PF, "isRegister", "(I)Z"⟩
abbrev t_PF_isRegister : MT := (y_PF_isRegister, b_PF_isRegister, 1, (some .boolean), 0, 0)
abbrev b_PF_boxOf : ByteArray := prog_1_method_18_code
def y_PF_boxOf : MethodName := ⟨R_PF, "boxOf", "(I)LPageFile$Box;"⟩
abbrev t_PF_boxOf : MT := (y_PF_boxOf, b_PF_boxOf, 2, (some (.object "PageFile$Box")), 1, 20)
abbrev b_PF_dropBox : ByteArray := prog_1_method_19_code
def y_PF_dropBox : MethodName := ⟨R_PF, "dropBox", "(I)V"⟩
abbrev t_PF_dropBox : MT := (y_PF_dropBox, b_PF_dropBox, 3, none, 2, 41)
abbrev b_PF_writePage : ByteArray := prog_1_method_20_code
def y_PF_writePage : MethodName := ⟨R_PF, "writePage", "(LPageFile$Box;)Z"⟩
abbrev t_PF_writePage : MT := (y_PF_writePage, b_PF_writePage, 6, (some .boolean), 7, 189)
abbrev b_PF_writeBeginning : ByteArray := prog_1_method_21_code
def y_PF_writeBeginning : MethodName := ⟨R_PF, "writeBeginning", "()V"⟩
abbrev t_PF_writeBeginning : MT := (y_PF_writeBeginning, b_PF_writeBeginning, 1, none, 4, 108)
abbrev b_PF_writeUnits : ByteArray := prog_1_method_22_code
def y_PF_writeUnits : MethodName := ⟨R_PF, "writeUnits", "()V"⟩
abbrev t_PF_writeUnits : MT := (y_PF_writeUnits, b_PF_writeUnits, 1, none, 3, 88)
abbrev b_Mod_init : ByteArray := prog_11_method_1_code
def y_Mod_init : MethodName := ⟨R_Mod, "<init>", "()V"⟩
abbrev t_Mod_init : MT := (y_Mod_init, b_Mod_init, 1, none, 1, 12)
abbrev b_Mod_thrown : ByteArray := prog_11_method_2_code
def y_Mod_thrown : MethodName := ⟨R_Mod, "thrown", "()I"⟩
abbrev t_Mod_thrown : MT := (y_Mod_thrown, b_Mod_thrown, 1, (some .int), 0, 0)
abbrev b_Mod_isSize : ByteArray := prog_11_method_3_code
def y_Mod_isSize : MethodName := ⟨R_Mod, "isSize", "(I)Z"⟩
abbrev t_Mod_isSize : MT := (y_Mod_isSize, b_Mod_isSize, 1, (some .boolean), 0, 0)
abbrev b_Mod_isSizeLong : ByteArray := prog_11_method_4_code
def y_Mod_isSizeLong : MethodName := ⟨R_Mod, "isSizeLong", "(J)Z"⟩
abbrev t_Mod_isSizeLong : MT := (y_Mod_isSizeLong, b_Mod_isSizeLong, 2, (some .boolean), 0, 0)
abbrev b_Mod_shelved : ByteArray := prog_11_method_5_code
def y_Mod_shelved : MethodName := ⟨R_Mod, "shelved", "()I"⟩
abbrev t_Mod_shelved : MT := (y_Mod_shelved, b_Mod_shelved, 3, (some .int), 0, 0)
abbrev b_Mod_hasRoom : ByteArray := prog_11_method_6_code
def y_Mod_hasRoom : MethodName := ⟨R_Mod, "hasRoom", "(I)Z"⟩
abbrev t_Mod_hasRoom : MT := (y_Mod_hasRoom, b_Mod_hasRoom, 2, (some .boolean), 1, 22)
abbrev b_Mod_start : ByteArray := prog_11_method_7_code
def y_Mod_start : MethodName := ⟨R_Mod, "start", "(I)I"⟩
abbrev t_Mod_start : MT := (y_Mod_start, b_Mod_start, 4, (some .int), 0, 0)
abbrev b_Mod_move : ByteArray := prog_11_method_8_code
def y_Mod_move : MethodName := ⟨R_Mod, "move", "(II)V"⟩
abbrev t_Mod_move : MT := (y_Mod_move, b_Mod_move, 3, none, 0, 0)
abbrev b_Mod_font : ByteArray := prog_11_method_9_code
def y_Mod_font : MethodName := ⟨R_Mod, "font", "(III)Z"⟩
abbrev t_Mod_font : MT := (y_Mod_font, b_Mod_font, 4, (some .boolean), 0, 0)
abbrev b_Mod_open : ByteArray := prog_11_method_10_code
def y_Mod_open : MethodName := ⟨R_Mod, "open", "(Z)Z"⟩
abbrev t_Mod_open : MT := (y_Mod_open, b_Mod_open, 2, (some .boolean), 0, 0)
abbrev b_Mod_isVertical : ByteArray := prog_11_method_11_code
def y_Mod_isVertical : MethodName := ⟨R_Mod, "isVertical", "()Z"⟩
abbrev t_Mod_isVertical : MT := (y_Mod_isVertical, b_Mod_isVertical, 1, (some .boolean), 0, 0)
abbrev b_Mod_add : ByteArray := prog_11_method_12_code
def y_Mod_add : MethodName := ⟨R_Mod, "add", "(ZIIIIII)Z"⟩
abbrev t_Mod_add : MT := (y_Mod_add, b_Mod_add, 8, (some .boolean), 2, 43)
abbrev b_Mod_character : ByteArray := prog_11_method_13_code
def y_Mod_character : MethodName := ⟨R_Mod, "character", "(IIIII)Z"⟩
abbrev t_Mod_character : MT := (y_Mod_character, b_Mod_character, 6, (some .boolean), 3, 70)
abbrev b_Mod_rule : ByteArray := prog_11_method_14_code
def y_Mod_rule : MethodName := ⟨R_Mod, "rule", "(IIII)Z"⟩
abbrev t_Mod_rule : MT := (y_Mod_rule, b_Mod_rule, 6, (some .boolean), 3, 70)
abbrev b_Mod_space : ByteArray := prog_11_method_15_code
def y_Mod_space : MethodName := ⟨R_Mod, "space", "(I)Z"⟩
abbrev t_Mod_space : MT := (y_Mod_space, b_Mod_space, 2, (some .boolean), 3, 70)
abbrev b_Mod_isBox : ByteArray := prog_11_method_16_code
def y_Mod_isBox : MethodName := ⟨R_Mod, "isBox", "(I)Z"⟩
abbrev t_Mod_isBox : MT := (y_Mod_isBox, b_Mod_isBox, 2, (some .boolean), 0, 0)
abbrev b_Mod_nested : ByteArray := prog_11_method_17_code
def y_Mod_nested : MethodName := ⟨R_Mod, "nested", "(II)I"⟩
abbrev t_Mod_nested : MT := (y_Mod_nested, b_Mod_nested, 7, (some .int), 1, 21)
abbrev b_Mod_empty : ByteArray := prog_11_method_18_code
def y_Mod_empty : MethodName := ⟨R_Mod, "empty", "(I)V"⟩
abbrev t_Mod_empty : MT := (y_Mod_empty, b_Mod_empty, 6, none, 1, 23)
abbrev b_Mod_make : ByteArray := prog_11_method_19_code
def y_Mod_make : MethodName := ⟨R_Mod, "make", "(II)V"⟩
abbrev t_Mod_make : MT := (y_Mod_make, b_Mod_make, 5, none, 1, 23)
abbrev b_Mod_close : ByteArray := prog_11_method_20_code
def y_Mod_close : MethodName := ⟨R_Mod, "close", "(I)Z"⟩
abbrev t_Mod_close : MT := (y_Mod_close, b_Mod_close, 14, (some .boolean), 2, 48)
abbrev b_Mod_isFull : ByteArray := prog_11_method_21_code
def y_Mod_isFull : MethodName := ⟨R_Mod, "isFull", "(I)Z"⟩
abbrev t_Mod_isFull : MT := (y_Mod_isFull, b_Mod_isFull, 2, (some .boolean), 0, 0)
abbrev b_Mod_put : ByteArray := prog_11_method_22_code
def y_Mod_put : MethodName := ⟨R_Mod, "put", "(IIZ)Z"⟩
abbrev t_Mod_put : MT := (y_Mod_put, b_Mod_put, 7, (some .boolean), 2, 48)
abbrev b_Mod_write : ByteArray := prog_11_method_23_code
def y_Mod_write : MethodName := ⟨R_Mod, "write", "(II)V"⟩
abbrev t_Mod_write : MT := (y_Mod_write, b_Mod_write, 4, none, 0, 0)
abbrev b_Mod_writeNumbers : ByteArray := prog_11_method_24_code
def y_Mod_writeNumbers : MethodName := ⟨R_Mod, "writeNumbers", "()V"⟩
abbrev t_Mod_writeNumbers : MT := (y_Mod_writeNumbers, b_Mod_writeNumbers, 1, none, 1, 23)
abbrev b_Mod_writeBeginning : ByteArray := prog_11_method_25_code
def y_Mod_writeBeginning : MethodName := ⟨R_Mod, "writeBeginning", "()V"⟩
abbrev t_Mod_writeBeginning : MT := (y_Mod_writeBeginning, b_Mod_writeBeginning, 1, none, 2, 43)
abbrev b_Mod_writeFont : ByteArray := prog_11_method_26_code
def y_Mod_writeFont : MethodName := ⟨R_Mod, "writeFont", "(I)V"⟩
abbrev t_Mod_writeFont : MT := (y_Mod_writeFont, b_Mod_writeFont, 2, none, 1, 23)
abbrev b_Mod_sized : ByteArray := prog_11_method_27_code
def y_Mod_sized : MethodName := ⟨R_Mod, "sized", "(J)V"⟩
abbrev t_Mod_sized : MT := (y_Mod_sized, b_Mod_sized, 3, none, 1, 21)
abbrev b_Mod_enter : ByteArray := prog_11_method_28_code
def y_Mod_enter : MethodName := ⟨R_Mod, "enter", "(II)V"⟩
abbrev t_Mod_enter : MT := (y_Mod_enter, b_Mod_enter, 3, none, 2, 43)
abbrev b_Mod_placeAll : ByteArray := prog_11_method_29_code
def y_Mod_placeAll : MethodName := ⟨R_Mod, "placeAll", "(II)V"⟩
abbrev t_Mod_placeAll : MT := (y_Mod_placeAll, b_Mod_placeAll, 18, none, 3, 65)
abbrev b_Mod_bytes : ByteArray := prog_11_method_30_code
def y_Mod_bytes : MethodName := ⟨R_Mod, "bytes", "(I)I"⟩
abbrev t_Mod_bytes : MT := (y_Mod_bytes, b_Mod_bytes, 1, (some .int), 0, 0)
abbrev b_Mod_go : ByteArray := prog_11_method_31_code
def y_Mod_go : MethodName := ⟨R_Mod, "go", "(II)V"⟩
abbrev t_Mod_go : MT := (y_Mod_go, b_Mod_go, 9, none, 2, 43)
abbrev b_Mod_goTo : ByteArray := prog_11_method_32_code
def y_Mod_goTo : MethodName := ⟨R_Mod, "goTo", "(II)V"⟩
abbrev t_Mod_goTo : MT := (y_Mod_goTo, b_Mod_goTo, 3, none, 3, 71)
abbrev b_Mod_writeCharacter : ByteArray := prog_11_method_33_code
def y_Mod_writeCharacter : MethodName := ⟨R_Mod, "writeCharacter", "(I)V"⟩
abbrev t_Mod_writeCharacter : MT := (y_Mod_writeCharacter, b_Mod_writeCharacter, 3, none, 2, 44)
abbrev b_Mod_leave : ByteArray := prog_11_method_34_code
def y_Mod_leave : MethodName := ⟨R_Mod, "leave", "()V"⟩
abbrev t_Mod_leave : MT := (y_Mod_leave, b_Mod_leave, 2, none, 1, 23)
abbrev b_Mod_writeRule : ByteArray := prog_11_method_35_code
def y_Mod_writeRule : MethodName := ⟨R_Mod, "writeRule", "(III)V"⟩
abbrev t_Mod_writeRule : MT := (y_Mod_writeRule, b_Mod_writeRule, 8, none, 4, 93)
abbrev b_Mod_writeAll : ByteArray := prog_11_method_36_code
def y_Mod_writeAll : MethodName := ⟨R_Mod, "writeAll", "(II)V"⟩
abbrev t_Mod_writeAll : MT := (y_Mod_writeAll, b_Mod_writeAll, 6, none, 5, 120)
abbrev b_Mod_boxOf : ByteArray := prog_11_method_37_code
def y_Mod_boxOf : MethodName := ⟨R_Mod, "boxOf", "(II)I"⟩
abbrev t_Mod_boxOf : MT := (y_Mod_boxOf, b_Mod_boxOf, 5, (some .int), 1, 21)
abbrev b_Mod_ship : ByteArray := prog_11_method_38_code
def y_Mod_ship : MethodName := ⟨R_Mod, "ship", "(I)I"⟩
abbrev t_Mod_ship : MT := (y_Mod_ship, b_Mod_ship, 9, (some .int), 6, 145)
abbrev b_Mod_finish : ByteArray := prog_11_method_39_code
def y_Mod_finish : MethodName := ⟨R_Mod, "finish", "()I"⟩
abbrev t_Mod_finish : MT := (y_Mod_finish, b_Mod_finish, 3, (some .int), 3, 63)
abbrev b_Mod_byteAt : ByteArray := prog_11_method_40_code
def y_Mod_byteAt : MethodName := ⟨R_Mod, "byteAt", "(I)I"⟩
abbrev t_Mod_byteAt : MT := (y_Mod_byteAt, b_Mod_byteAt, 2, (some .int), 0, 0)
abbrev b_Mod_count : ByteArray := prog_11_method_41_code
def y_Mod_count : MethodName := ⟨R_Mod, "count", "(I)I"⟩
abbrev t_Mod_count : MT := (y_Mod_count, b_Mod_count, 2, (some .int), 1, 22)
abbrev b_Mod_size : ByteArray := prog_11_method_42_code
def y_Mod_size : MethodName := ⟨R_Mod, "size", "(II)I"⟩
abbrev t_Mod_size : MT := (y_Mod_size, b_Mod_size, 4, (some .int), 1, 23)
theorem oi_Byt : Cond.methodLink R_Byt 3 objectInit ∈ gw := gw_in 40 (by decide +kernel) (by decide +kernel)
theorem f_Byt_9 : FL R_Byt 9 2 0 (.array (.byte)) false R_Byt := ⟨R_Byt, T_Byt, 2, ty_Byt, rfl, i_Byt, ok_Byt, nm_Byt, by decide, gw_in 41 (by decide +kernel) (by decide +kernel), rfl, rfl, rfl⟩
theorem f_Byt_15 : FL R_Byt 15 2 1 (.int) false R_Byt := ⟨R_Byt, T_Byt, 2, ty_Byt, rfl, i_Byt, ok_Byt, nm_Byt, by decide, gw_in 42 (by decide +kernel) (by decide +kernel), rfl, rfl, rfl⟩
theorem oi_Fon : Cond.methodLink R_Fon 3 objectInit ∈ gw := gw_in 55 (by decide +kernel) (by decide +kernel)
theorem f_Fon_9 : FL R_Fon 9 3 0 (.array (.int)) true R_Fon := ⟨R_Fon, T_Fon, 3, ty_Fon, rfl, i_Fon, ok_Fon, nm_Fon, by decide, gw_in 56 (by decide +kernel) (by decide +kernel), rfl, rfl, rfl⟩
theorem f_Fon_15 : FL R_Fon 15 3 1 (.array (.int)) true R_Fon := ⟨R_Fon, T_Fon, 3, ty_Fon, rfl, i_Fon, ok_Fon, nm_Fon, by decide, gw_in 57 (by decide +kernel) (by decide +kernel), rfl, rfl, rfl⟩
theorem c_Fon_18 : OKSN R_Fon 18 t_PF_isFont 1 := ⟨⟨gw_in 218 (by decide +kernel) (by decide +kernel), gw_in 1 (by decide +kernel) (by decide +kernel), by decide +kernel, by decide +kernel, by decide +kernel⟩, ⟨"PageFile", nw_in 223 (by decide +kernel) (by decide +kernel)⟩, gw_in 217 (by decide +kernel) (by decide +kernel)⟩
theorem f_Fon_22 : FL R_Fon 22 3 2 (.int) false R_Fon := ⟨R_Fon, T_Fon, 3, ty_Fon, rfl, i_Fon, ok_Fon, nm_Fon, by decide, gw_in 58 (by decide +kernel) (by decide +kernel), rfl, rfl, rfl⟩
theorem c_Fon_26 : OKV R_Fon 26 t_Byt_add 2 := ⟨⟨gw_in 550 (by decide +kernel) (by decide +kernel), gw_in 3 (by decide +kernel) (by decide +kernel), by decide +kernel, by decide +kernel, by decide +kernel⟩, gw_in 682 (by decide +kernel) (by decide +kernel), gw_in 548 (by decide +kernel) (by decide +kernel), gw_in 549 (by decide +kernel) (by decide +kernel)⟩
theorem oi_Trk : Cond.methodLink R_Trk 3 objectInit ∈ gw := gw_in 73 (by decide +kernel) (by decide +kernel)
theorem f_Trk_9 : FL R_Trk 9 8 0 (.int) true R_Trk := ⟨R_Trk, T_Trk, 5, ty_Trk, rfl, i_Trk, ok_Trk, nm_Trk, by decide, gw_in 74 (by decide +kernel) (by decide +kernel), rfl, rfl, rfl⟩
theorem f_Trk_15 : FL R_Trk 15 8 1 (.int) false R_Trk := ⟨R_Trk, T_Trk, 5, ty_Trk, rfl, i_Trk, ok_Trk, nm_Trk, by decide, gw_in 75 (by decide +kernel) (by decide +kernel), rfl, rfl, rfl⟩
theorem f_Trk_18 : FL R_Trk 18 8 2 (.int) false R_Trk := ⟨R_Trk, T_Trk, 5, ty_Trk, rfl, i_Trk, ok_Trk, nm_Trk, by decide, gw_in 78 (by decide +kernel) (by decide +kernel), rfl, rfl, rfl⟩
theorem f_Trk_21 : FL R_Trk 21 8 3 (.int) false R_Trk := ⟨R_Trk, T_Trk, 5, ty_Trk, rfl, i_Trk, ok_Trk, nm_Trk, by decide, gw_in 79 (by decide +kernel) (by decide +kernel), rfl, rfl, rfl⟩
theorem f_Trk_24 : FL R_Trk 24 8 4 (.boolean) false R_Trk := ⟨R_Trk, T_Trk, 5, ty_Trk, rfl, i_Trk, ok_Trk, nm_Trk, by decide, gw_in 80 (by decide +kernel) (by decide +kernel), rfl, rfl, rfl⟩
theorem c_Trk_28 : OKSN R_Trk 28 t_PF_isSize 1 := ⟨⟨gw_in 281 (by decide +kernel) (by decide +kernel), gw_in 1 (by decide +kernel) (by decide +kernel), by decide +kernel, by decide +kernel, by decide +kernel⟩, ⟨"PageFile", nw_in 589 (by decide +kernel) (by decide +kernel)⟩, gw_in 280 (by decide +kernel) (by decide +kernel)⟩
theorem c_Trk_32 : OKS R_Trk 32 t_Trk_fewestBytes 1 := ⟨⟨gw_in 592 (by decide +kernel) (by decide +kernel), gw_in 5 (by decide +kernel) (by decide +kernel), by decide +kernel, by decide +kernel, by decide +kernel⟩, gw_in 590 (by decide +kernel) (by decide +kernel), gw_in 591 (by decide +kernel) (by decide +kernel)⟩
theorem c_Trk_36 : OKV R_Trk 36 t_Byt_add 2 := ⟨⟨gw_in 550 (by decide +kernel) (by decide +kernel), gw_in 3 (by decide +kernel) (by decide +kernel), by decide +kernel, by decide +kernel, by decide +kernel⟩, gw_in 599 (by decide +kernel) (by decide +kernel), gw_in 548 (by decide +kernel) (by decide +kernel), gw_in 549 (by decide +kernel) (by decide +kernel)⟩
theorem k_Trk_42 : Cond.constantLong R_Trk 42 (-128) ∈ gw := gw_in 593 (by decide +kernel) (by decide +kernel)
theorem k_Trk_44 : Cond.constantLong R_Trk 44 128 ∈ gw := gw_in 594 (by decide +kernel) (by decide +kernel)
theorem k_Trk_46 : Cond.constantLong R_Trk 46 (-32768) ∈ gw := gw_in 595 (by decide +kernel) (by decide +kernel)
theorem k_Trk_48 : Cond.constantLong R_Trk 48 32768 ∈ gw := gw_in 596 (by decide +kernel) (by decide +kernel)
theorem k_Trk_50 : Cond.constantLong R_Trk 50 (-8388608) ∈ gw := gw_in 597 (by decide +kernel) (by decide +kernel)
theorem k_Trk_52 : Cond.constantLong R_Trk 52 8388608 ∈ gw := gw_in 598 (by decide +kernel) (by decide +kernel)
theorem oi_Itm : Cond.methodLink R_Itm 1 objectInit ∈ gw := gw_in 289 (by decide +kernel) (by decide +kernel)
theorem f_Itm_7 : FL R_Itm 7 5 0 (.int) true R_Itm := ⟨R_Itm, T_Itm, 10, ty_Itm, rfl, i_Itm, ok_Itm, nm_Itm, by decide, gw_in 290 (by decide +kernel) (by decide +kernel), rfl, rfl, rfl⟩
theorem f_Itm_13 : FL R_Itm 13 5 1 (.int) true R_Itm := ⟨R_Itm, T_Itm, 10, ty_Itm, rfl, i_Itm, ok_Itm, nm_Itm, by decide, gw_in 294 (by decide +kernel) (by decide +kernel), rfl, rfl, rfl⟩
theorem f_Itm_16 : FL R_Itm 16 5 2 (.int) true R_Itm := ⟨R_Itm, T_Itm, 10, ty_Itm, rfl, i_Itm, ok_Itm, nm_Itm, by decide, gw_in 298 (by decide +kernel) (by decide +kernel), rfl, rfl, rfl⟩
theorem f_Itm_19 : FL R_Itm 19 5 3 (.int) true R_Itm := ⟨R_Itm, T_Itm, 10, ty_Itm, rfl, i_Itm, ok_Itm, nm_Itm, by decide, gw_in 301 (by decide +kernel) (by decide +kernel), rfl, rfl, rfl⟩
theorem oi_Box : Cond.methodLink R_Box 1 objectInit ∈ gw := gw_in 382 (by decide +kernel) (by decide +kernel)
theorem f_Box_7 : FL R_Box 7 6 0 (.boolean) true R_OpL := ⟨R_OpL, T_OpL, 10, ty_OpL, rfl, i_OpL, ok_OpL, nm_OpL, by decide, gw_in 235 (by decide +kernel) (by decide +kernel), rfl, rfl, rfl⟩
theorem f_Box_13 : FL R_Box 13 1 0 (.boolean) true R_Box := ⟨R_Box, T_Box, 7, ty_Box, rfl, i_Box, ok_Box, nm_Box, by decide, gw_in 383 (by decide +kernel) (by decide +kernel), rfl, rfl, rfl⟩
theorem f_Box_16 : FL R_Box 16 1 1 (.int) true R_Box := ⟨R_Box, T_Box, 7, ty_Box, rfl, i_Box, ok_Box, nm_Box, by decide, gw_in 386 (by decide +kernel) (by decide +kernel), rfl, rfl, rfl⟩
theorem f_Box_20 : FL R_Box 20 1 2 (.int) true R_Box := ⟨R_Box, T_Box, 7, ty_Box, rfl, i_Box, ok_Box, nm_Box, by decide, gw_in 389 (by decide +kernel) (by decide +kernel), rfl, rfl, rfl⟩
theorem f_Box_23 : FL R_Box 23 1 3 (.int) true R_Box := ⟨R_Box, T_Box, 7, ty_Box, rfl, i_Box, ok_Box, nm_Box, by decide, gw_in 393 (by decide +kernel) (by decide +kernel), rfl, rfl, rfl⟩
theorem f_Box_26 : FLN R_Box 26 6 3 (.object "PageFile$Item") false "PageFile" := ⟨R_OpL, T_OpL, 10, ty_OpL, rfl, i_OpL, ok_OpL, nm_OpL, by decide, nw_in 241 (by decide +kernel) (by decide +kernel), rfl, rfl⟩
theorem f_Box_30 : FL R_Box 30 1 4 (.object "PageFile$Item") true R_Box := ⟨R_Box, T_Box, 7, ty_Box, rfl, i_Box, ok_Box, nm_Box, by decide, gw_in 396 (by decide +kernel) (by decide +kernel), rfl, rfl, rfl⟩
theorem f_Box_31 : FLN R_Box 31 6 5 (.int) false "PageFile" := ⟨R_OpL, T_OpL, 10, ty_OpL, rfl, i_OpL, ok_OpL, nm_OpL, by decide, nw_in 244 (by decide +kernel) (by decide +kernel), rfl, rfl⟩
theorem f_Box_34 : FL R_Box 34 1 5 (.int) true R_Box := ⟨R_Box, T_Box, 7, ty_Box, rfl, i_Box, ok_Box, nm_Box, by decide, gw_in 399 (by decide +kernel) (by decide +kernel), rfl, rfl, rfl⟩
theorem f_Box_35 : FLN R_Box 35 6 6 (.int) false "PageFile" := ⟨R_OpL, T_OpL, 10, ty_OpL, rfl, i_OpL, ok_OpL, nm_OpL, by decide, nw_in 246 (by decide +kernel) (by decide +kernel), rfl, rfl⟩
theorem f_Box_38 : FL R_Box 38 1 6 (.int) true R_Box := ⟨R_Box, T_Box, 7, ty_Box, rfl, i_Box, ok_Box, nm_Box, by decide, gw_in 402 (by decide +kernel) (by decide +kernel), rfl, rfl, rfl⟩
theorem oi_OpL : Cond.methodLink R_OpL 3 objectInit ∈ gw := gw_in 233 (by decide +kernel) (by decide +kernel)
theorem f_OpL_9 : FL R_OpL 9 6 0 (.boolean) true R_OpL := ⟨R_OpL, T_OpL, 10, ty_OpL, rfl, i_OpL, ok_OpL, nm_OpL, by decide, gw_in 234 (by decide +kernel) (by decide +kernel), rfl, rfl, rfl⟩
theorem f_OpL_15 : FL R_OpL 15 6 1 (.object "PageFile$OpenList") true R_OpL := ⟨R_OpL, T_OpL, 10, ty_OpL, rfl, i_OpL, ok_OpL, nm_OpL, by decide, gw_in 237 (by decide +kernel) (by decide +kernel), rfl, rfl, rfl⟩
theorem f_OpL_19 : FL R_OpL 19 6 2 (.int) true R_OpL := ⟨R_OpL, T_OpL, 10, ty_OpL, rfl, i_OpL, ok_OpL, nm_OpL, by decide, gw_in 239 (by decide +kernel) (by decide +kernel), rfl, rfl, rfl⟩
theorem f_OpL_23 : FL R_OpL 23 6 4 (.object "PageFile$Item") false R_OpL := ⟨R_OpL, T_OpL, 10, ty_OpL, rfl, i_OpL, ok_OpL, nm_OpL, by decide, gw_in 243 (by decide +kernel) (by decide +kernel), rfl, rfl, rfl⟩
theorem f_OpL_27 : FL R_OpL 27 6 3 (.object "PageFile$Item") false R_OpL := ⟨R_OpL, T_OpL, 10, ty_OpL, rfl, i_OpL, ok_OpL, nm_OpL, by decide, gw_in 242 (by decide +kernel) (by decide +kernel), rfl, rfl, rfl⟩
theorem f_OpL_30 : FL R_OpL 30 5 9 (.object "PageFile$Item") false R_Itm := ⟨R_Itm, T_Itm, 10, ty_Itm, rfl, i_Itm, ok_Itm, nm_Itm, by decide, gw_in 316 (by decide +kernel) (by decide +kernel), rfl, rfl, rfl⟩
theorem f_OpL_35 : FL R_OpL 35 6 5 (.int) false R_OpL := ⟨R_OpL, T_OpL, 10, ty_OpL, rfl, i_OpL, ok_OpL, nm_OpL, by decide, gw_in 245 (by decide +kernel) (by decide +kernel), rfl, rfl, rfl⟩
theorem f_OpL_38 : FL R_OpL 38 5 8 (.object "PageFile$Box") false R_Itm := ⟨R_Itm, T_Itm, 10, ty_Itm, rfl, i_Itm, ok_Itm, nm_Itm, by decide, gw_in 313 (by decide +kernel) (by decide +kernel), rfl, rfl, rfl⟩
theorem f_OpL_42 : FL R_OpL 42 1 5 (.int) true R_Box := ⟨R_Box, T_Box, 7, ty_Box, rfl, i_Box, ok_Box, nm_Box, by decide, gw_in 400 (by decide +kernel) (by decide +kernel), rfl, rfl, rfl⟩
theorem f_OpL_45 : FL R_OpL 45 6 6 (.int) false R_OpL := ⟨R_OpL, T_OpL, 10, ty_OpL, rfl, i_OpL, ok_OpL, nm_OpL, by decide, gw_in 247 (by decide +kernel) (by decide +kernel), rfl, rfl, rfl⟩
theorem f_OpL_48 : FL R_OpL 48 1 6 (.int) true R_Box := ⟨R_Box, T_Box, 7, ty_Box, rfl, i_Box, ok_Box, nm_Box, by decide, gw_in 403 (by decide +kernel) (by decide +kernel), rfl, rfl, rfl⟩
theorem mx_OpL_49 : Cond.methodLink R_OpL 49 Lib.Math.max.name ∈ gw := gw_in 343 (by decide +kernel) (by decide +kernel)
theorem c_OpL_55 : OKV R_OpL 55 t_OpL_measureDown 1 := ⟨⟨gw_in 349 (by decide +kernel) (by decide +kernel), gw_in 8 (by decide +kernel) (by decide +kernel), by decide +kernel, by decide +kernel, by decide +kernel⟩, gw_in 346 (by decide +kernel) (by decide +kernel), gw_in 348 (by decide +kernel) (by decide +kernel), gw_sel 0 (by decide +kernel) (by decide +kernel)⟩
theorem c_OpL_59 : OKV R_OpL 59 t_OpL_measureAcross 1 := ⟨⟨gw_in 356 (by decide +kernel) (by decide +kernel), gw_in 8 (by decide +kernel) (by decide +kernel), by decide +kernel, by decide +kernel, by decide +kernel⟩, gw_in 353 (by decide +kernel) (by decide +kernel), gw_in 355 (by decide +kernel) (by decide +kernel), gw_sel 1 (by decide +kernel) (by decide +kernel)⟩
theorem f_OpL_62 : FL R_OpL 62 6 7 (.long) false R_OpL := ⟨R_OpL, T_OpL, 10, ty_OpL, rfl, i_OpL, ok_OpL, nm_OpL, by decide, gw_in 248 (by decide +kernel) (by decide +kernel), rfl, rfl, rfl⟩
theorem f_OpL_66 : FL R_OpL 66 5 1 (.int) true R_Itm := ⟨R_Itm, T_Itm, 10, ty_Itm, rfl, i_Itm, ok_Itm, nm_Itm, by decide, gw_in 295 (by decide +kernel) (by decide +kernel), rfl, rfl, rfl⟩
theorem f_OpL_68 : FL R_OpL 68 6 8 (.long) false R_OpL := ⟨R_OpL, T_OpL, 10, ty_OpL, rfl, i_OpL, ok_OpL, nm_OpL, by decide, gw_in 249 (by decide +kernel) (by decide +kernel), rfl, rfl, rfl⟩
theorem f_OpL_71 : FL R_OpL 71 5 2 (.int) true R_Itm := ⟨R_Itm, T_Itm, 10, ty_Itm, rfl, i_Itm, ok_Itm, nm_Itm, by decide, gw_in 299 (by decide +kernel) (by decide +kernel), rfl, rfl, rfl⟩
theorem f_OpL_73 : FL R_OpL 73 5 7 (.int) false R_Itm := ⟨R_Itm, T_Itm, 10, ty_Itm, rfl, i_Itm, ok_Itm, nm_Itm, by decide, gw_in 310 (by decide +kernel) (by decide +kernel), rfl, rfl, rfl⟩
theorem mx_OpL_76 : Cond.methodLink R_OpL 76 Lib.MathLoose.max_long.x ∈ gw := gw_in 350 (by decide +kernel) (by decide +kernel)
theorem f_OpL_79 : FL R_OpL 79 6 9 (.long) false R_OpL := ⟨R_OpL, T_OpL, 10, ty_OpL, rfl, i_OpL, ok_OpL, nm_OpL, by decide, gw_in 250 (by decide +kernel) (by decide +kernel), rfl, rfl, rfl⟩
theorem f_OpL_82 : FL R_OpL 82 5 3 (.int) true R_Itm := ⟨R_Itm, T_Itm, 10, ty_Itm, rfl, i_Itm, ok_Itm, nm_Itm, by decide, gw_in 302 (by decide +kernel) (by decide +kernel), rfl, rfl, rfl⟩
theorem f_OpL_84 : FL R_OpL 84 5 0 (.int) true R_Itm := ⟨R_Itm, T_Itm, 10, ty_Itm, rfl, i_Itm, ok_Itm, nm_Itm, by decide, gw_in 292 (by decide +kernel) (by decide +kernel), rfl, rfl, rfl⟩
theorem c_OpL_87 : OKSN R_OpL 87 t_PF_areSizes 3 := ⟨⟨gw_in 278 (by decide +kernel) (by decide +kernel), gw_in 1 (by decide +kernel) (by decide +kernel), by decide +kernel, by decide +kernel, by decide +kernel⟩, ⟨"PageFile", nw_in 376 (by decide +kernel) (by decide +kernel)⟩, gw_in 277 (by decide +kernel) (by decide +kernel)⟩
theorem n_OpL_43 : NW R_OpL 43 1 [.int 0, .int 0, .int 0, .int 0, .null, .int 0, .int 0] 7 := ⟨R_Box, T_Box, ty_Box, rfl, i_Box, ok_Box, gw_in 377 (by decide +kernel) (by decide +kernel), gw_in 378 (by decide +kernel) (by decide +kernel), gw_in 11 (by decide +kernel) (by decide +kernel), by decide +kernel⟩
theorem c_OpL_91 : OKI R_OpL 91 t_Box_init 4 := ⟨⟨gw_in 381 (by decide +kernel) (by decide +kernel), gw_in 11 (by decide +kernel) (by decide +kernel), by decide +kernel, by decide +kernel, by decide +kernel⟩, gw_in 379 (by decide +kernel) (by decide +kernel), gw_in 380 (by decide +kernel) (by decide +kernel), rfl, rfl⟩
theorem oi_Fra : Cond.methodLink R_Fra 3 objectInit ∈ gw := gw_in 97 (by decide +kernel) (by decide +kernel)
theorem n_Fra_9 : NW R_Fra 9 8 [.int 0, .int 0, .int 0, .int 0, .int 0] 5 := ⟨R_Trk, T_Trk, ty_Trk, rfl, i_Trk, ok_Trk, gw_in 98 (by decide +kernel) (by decide +kernel), gw_in 69 (by decide +kernel) (by decide +kernel), gw_in 5 (by decide +kernel) (by decide +kernel), by decide +kernel⟩
theorem c_Fra_11 : OKI R_Fra 11 t_Trk_init 1 := ⟨⟨gw_in 72 (by decide +kernel) (by decide +kernel), gw_in 5 (by decide +kernel) (by decide +kernel), by decide +kernel, by decide +kernel, by decide +kernel⟩, gw_in 99 (by decide +kernel) (by decide +kernel), gw_in 71 (by decide +kernel) (by decide +kernel), rfl, rfl⟩
theorem f_Fra_14 : FL R_Fra 14 4 2 (.object "PageFile$Track") true R_Fra := ⟨R_Fra, T_Fra, 13, ty_Fra, rfl, i_Fra, ok_Fra, nm_Fra, by decide, gw_in 104 (by decide +kernel) (by decide +kernel), rfl, rfl, rfl⟩
theorem f_Fra_20 : FL R_Fra 20 4 3 (.object "PageFile$Track") true R_Fra := ⟨R_Fra, T_Fra, 13, ty_Fra, rfl, i_Fra, ok_Fra, nm_Fra, by decide, gw_in 106 (by decide +kernel) (by decide +kernel), rfl, rfl, rfl⟩
theorem f_Fra_23 : FL R_Fra 23 4 0 (.object "PageFile$Frame") true R_Fra := ⟨R_Fra, T_Fra, 13, ty_Fra, rfl, i_Fra, ok_Fra, nm_Fra, by decide, gw_in 100 (by decide +kernel) (by decide +kernel), rfl, rfl, rfl⟩
theorem f_Fra_27 : FL R_Fra 27 4 1 (.int) true R_Fra := ⟨R_Fra, T_Fra, 13, ty_Fra, rfl, i_Fra, ok_Fra, nm_Fra, by decide, gw_in 102 (by decide +kernel) (by decide +kernel), rfl, rfl, rfl⟩
theorem f_Fra_31 : FL R_Fra 31 4 4 (.object "PageFile$Frame") false R_Fra := ⟨R_Fra, T_Fra, 13, ty_Fra, rfl, i_Fra, ok_Fra, nm_Fra, by decide, gw_in 108 (by decide +kernel) (by decide +kernel), rfl, rfl, rfl⟩
theorem n_Fra_15 : NW R_Fra 15 4 [.null, .int 0, .null, .null, .null, .int 0, .int 0, .int 0, .int 0, .int 0, .int 0, .int 0, .null] 13 := ⟨R_Fra, T_Fra, ty_Fra, rfl, i_Fra, ok_Fra, gw_in 664 (by decide +kernel) (by decide +kernel), gw_in 93 (by decide +kernel) (by decide +kernel), gw_in 6 (by decide +kernel) (by decide +kernel), by decide +kernel⟩
theorem c_Fra_34 : OKI R_Fra 34 t_Fra_init 1 := ⟨⟨gw_in 96 (by decide +kernel) (by decide +kernel), gw_in 6 (by decide +kernel) (by decide +kernel), by decide +kernel, by decide +kernel, by decide +kernel⟩, gw_in 665 (by decide +kernel) (by decide +kernel), gw_in 95 (by decide +kernel) (by decide +kernel), rfl, rfl⟩
theorem c_Fra_37 : OKV R_Fra 37 t_Trk_become 1 := ⟨⟨gw_in 612 (by decide +kernel) (by decide +kernel), gw_in 5 (by decide +kernel) (by decide +kernel), by decide +kernel, by decide +kernel, by decide +kernel⟩, gw_in 609 (by decide +kernel) (by decide +kernel), gw_in 610 (by decide +kernel) (by decide +kernel), gw_in 611 (by decide +kernel) (by decide +kernel)⟩
theorem f_Fra_41 : FL R_Fra 41 1 0 (.boolean) true R_Box := ⟨R_Box, T_Box, 7, ty_Box, rfl, i_Box, ok_Box, nm_Box, by decide, gw_in 384 (by decide +kernel) (by decide +kernel), rfl, rfl, rfl⟩
theorem f_Fra_47 : FL R_Fra 47 4 5 (.boolean) false R_Fra := ⟨R_Fra, T_Fra, 13, ty_Fra, rfl, i_Fra, ok_Fra, nm_Fra, by decide, gw_in 109 (by decide +kernel) (by decide +kernel), rfl, rfl, rfl⟩
theorem f_Fra_48 : FL R_Fra 48 1 1 (.int) true R_Box := ⟨R_Box, T_Box, 7, ty_Box, rfl, i_Box, ok_Box, nm_Box, by decide, gw_in 387 (by decide +kernel) (by decide +kernel), rfl, rfl, rfl⟩
theorem f_Fra_51 : FL R_Fra 51 4 6 (.int) false R_Fra := ⟨R_Fra, T_Fra, 13, ty_Fra, rfl, i_Fra, ok_Fra, nm_Fra, by decide, gw_in 111 (by decide +kernel) (by decide +kernel), rfl, rfl, rfl⟩
theorem f_Fra_52 : FL R_Fra 52 1 2 (.int) true R_Box := ⟨R_Box, T_Box, 7, ty_Box, rfl, i_Box, ok_Box, nm_Box, by decide, gw_in 391 (by decide +kernel) (by decide +kernel), rfl, rfl, rfl⟩
theorem f_Fra_55 : FL R_Fra 55 4 7 (.int) false R_Fra := ⟨R_Fra, T_Fra, 13, ty_Fra, rfl, i_Fra, ok_Fra, nm_Fra, by decide, gw_in 112 (by decide +kernel) (by decide +kernel), rfl, rfl, rfl⟩
theorem f_Fra_56 : FL R_Fra 56 1 3 (.int) true R_Box := ⟨R_Box, T_Box, 7, ty_Box, rfl, i_Box, ok_Box, nm_Box, by decide, gw_in 394 (by decide +kernel) (by decide +kernel), rfl, rfl, rfl⟩
theorem f_Fra_59 : FL R_Fra 59 4 8 (.int) false R_Fra := ⟨R_Fra, T_Fra, 13, ty_Fra, rfl, i_Fra, ok_Fra, nm_Fra, by decide, gw_in 113 (by decide +kernel) (by decide +kernel), rfl, rfl, rfl⟩
theorem f_Fra_60 : FLN R_Fra 60 8 1 (.int) false "PageFile" := ⟨R_Trk, T_Trk, 5, ty_Trk, rfl, i_Trk, ok_Trk, nm_Trk, by decide, nw_in 76 (by decide +kernel) (by decide +kernel), rfl, rfl⟩
theorem f_Fra_63 : FL R_Fra 63 4 9 (.int) false R_Fra := ⟨R_Fra, T_Fra, 13, ty_Fra, rfl, i_Fra, ok_Fra, nm_Fra, by decide, gw_in 114 (by decide +kernel) (by decide +kernel), rfl, rfl, rfl⟩
theorem f_Fra_66 : FL R_Fra 66 4 10 (.int) false R_Fra := ⟨R_Fra, T_Fra, 13, ty_Fra, rfl, i_Fra, ok_Fra, nm_Fra, by decide, gw_in 115 (by decide +kernel) (by decide +kernel), rfl, rfl, rfl⟩
theorem f_Fra_69 : FL R_Fra 69 4 11 (.int) false R_Fra := ⟨R_Fra, T_Fra, 13, ty_Fra, rfl, i_Fra, ok_Fra, nm_Fra, by decide, gw_in 117 (by decide +kernel) (by decide +kernel), rfl, rfl, rfl⟩
theorem f_Fra_72 : FL R_Fra 72 1 4 (.object "PageFile$Item") true R_Box := ⟨R_Box, T_Box, 7, ty_Box, rfl, i_Box, ok_Box, nm_Box, by decide, gw_in 398 (by decide +kernel) (by decide +kernel), rfl, rfl, rfl⟩
theorem f_Fra_76 : FL R_Fra 76 4 12 (.object "PageFile$Item") false R_Fra := ⟨R_Fra, T_Fra, 13, ty_Fra, rfl, i_Fra, ok_Fra, nm_Fra, by decide, gw_in 119 (by decide +kernel) (by decide +kernel), rfl, rfl, rfl⟩
theorem f_Fra_79 : FL R_Fra 79 5 6 (.int) false R_Itm := ⟨R_Itm, T_Itm, 10, ty_Itm, rfl, i_Itm, ok_Itm, nm_Itm, by decide, gw_in 308 (by decide +kernel) (by decide +kernel), rfl, rfl, rfl⟩
theorem f_Fra_84 : FL R_Fra 84 5 1 (.int) true R_Itm := ⟨R_Itm, T_Itm, 10, ty_Itm, rfl, i_Itm, ok_Itm, nm_Itm, by decide, gw_in 296 (by decide +kernel) (by decide +kernel), rfl, rfl, rfl⟩
theorem f_Fra_85 : FL R_Fra 85 5 2 (.int) true R_Itm := ⟨R_Itm, T_Itm, 10, ty_Itm, rfl, i_Itm, ok_Itm, nm_Itm, by decide, gw_in 300 (by decide +kernel) (by decide +kernel), rfl, rfl, rfl⟩
theorem f_Fra_86 : FL R_Fra 86 5 3 (.int) true R_Itm := ⟨R_Itm, T_Itm, 10, ty_Itm, rfl, i_Itm, ok_Itm, nm_Itm, by decide, gw_in 303 (by decide +kernel) (by decide +kernel), rfl, rfl, rfl⟩
theorem c_Fra_87 : OKV R_Fra 87 t_Fra_heightOf 1 := ⟨⟨gw_in 638 (by decide +kernel) (by decide +kernel), gw_in 6 (by decide +kernel) (by decide +kernel), by decide +kernel, by decide +kernel, by decide +kernel⟩, gw_in 635 (by decide +kernel) (by decide +kernel), gw_in 636 (by decide +kernel) (by decide +kernel), gw_in 637 (by decide +kernel) (by decide +kernel)⟩
theorem c_Fra_91 : OKV R_Fra 91 t_Fra_depthOf 1 := ⟨⟨gw_in 642 (by decide +kernel) (by decide +kernel), gw_in 6 (by decide +kernel) (by decide +kernel), by decide +kernel, by decide +kernel, by decide +kernel⟩, gw_in 639 (by decide +kernel) (by decide +kernel), gw_in 640 (by decide +kernel) (by decide +kernel), gw_in 641 (by decide +kernel) (by decide +kernel)⟩
theorem f_Fra_94 : FL R_Fra 94 5 7 (.int) false R_Itm := ⟨R_Itm, T_Itm, 10, ty_Itm, rfl, i_Itm, ok_Itm, nm_Itm, by decide, gw_in 311 (by decide +kernel) (by decide +kernel), rfl, rfl, rfl⟩
theorem f_Fra_97 : FL R_Fra 97 5 0 (.int) true R_Itm := ⟨R_Itm, T_Itm, 10, ty_Itm, rfl, i_Itm, ok_Itm, nm_Itm, by decide, gw_in 293 (by decide +kernel) (by decide +kernel), rfl, rfl, rfl⟩
theorem c_Fra_100 : OKV R_Fra 100 t_Fra_extentOf 1 := ⟨⟨gw_in 634 (by decide +kernel) (by decide +kernel), gw_in 6 (by decide +kernel) (by decide +kernel), by decide +kernel, by decide +kernel, by decide +kernel⟩, gw_in 631 (by decide +kernel) (by decide +kernel), gw_in 632 (by decide +kernel) (by decide +kernel), gw_in 633 (by decide +kernel) (by decide +kernel)⟩
theorem oi_PgW : Cond.methodLink R_PgW 3 objectInit ∈ gw := gw_in 34 (by decide +kernel) (by decide +kernel)
theorem n_PgW_9 : NW R_PgW 9 2 [.null, .int 0] 2 := ⟨R_Byt, T_Byt, ty_Byt, rfl, i_Byt, ok_Byt, gw_in 35 (by decide +kernel) (by decide +kernel), gw_in 36 (by decide +kernel) (by decide +kernel), gw_in 3 (by decide +kernel) (by decide +kernel), by decide +kernel⟩
theorem c_PgW_11 : OKIN R_PgW 11 t_Byt_init 0 := ⟨⟨gw_in 39 (by decide +kernel) (by decide +kernel), gw_in 3 (by decide +kernel) (by decide +kernel), by decide +kernel, by decide +kernel, by decide +kernel⟩, ⟨"PageFile", nw_in 37 (by decide +kernel) (by decide +kernel)⟩, gw_in 38 (by decide +kernel) (by decide +kernel), rfl, rfl⟩
theorem f_PgW_12 : FL R_PgW 12 7 0 (.object "PageFile$Bytes") true R_PgW := ⟨R_PgW, T_PgW, 8, ty_PgW, rfl, i_PgW, ok_PgW, nm_PgW, by decide, gw_in 147 (by decide +kernel) (by decide +kernel), rfl, rfl, rfl⟩
theorem n_PgW_18 : NW R_PgW 18 3 [.null, .null, .int 0] 3 := ⟨R_Fon, T_Fon, ty_Fon, rfl, i_Fon, ok_Fon, gw_in 50 (by decide +kernel) (by decide +kernel), gw_in 51 (by decide +kernel) (by decide +kernel), gw_in 4 (by decide +kernel) (by decide +kernel), by decide +kernel⟩
theorem c_PgW_20 : OKIN R_PgW 20 t_Fon_init 0 := ⟨⟨gw_in 54 (by decide +kernel) (by decide +kernel), gw_in 4 (by decide +kernel) (by decide +kernel), by decide +kernel, by decide +kernel, by decide +kernel⟩, ⟨"PageFile", nw_in 52 (by decide +kernel) (by decide +kernel)⟩, gw_in 53 (by decide +kernel) (by decide +kernel), rfl, rfl⟩
theorem f_PgW_21 : FL R_PgW 21 7 1 (.object "PageFile$Fonts") true R_PgW := ⟨R_PgW, T_PgW, 8, ty_PgW, rfl, i_PgW, ok_PgW, nm_PgW, by decide, gw_in 149 (by decide +kernel) (by decide +kernel), rfl, rfl, rfl⟩
theorem n_PgW_25 : NW R_PgW 25 8 [.int 0, .int 0, .int 0, .int 0, .int 0] 5 := ⟨R_Trk, T_Trk, ty_Trk, rfl, i_Trk, ok_Trk, gw_in 68 (by decide +kernel) (by decide +kernel), gw_in 69 (by decide +kernel) (by decide +kernel), gw_in 5 (by decide +kernel) (by decide +kernel), by decide +kernel⟩
theorem c_PgW_27 : OKI R_PgW 27 t_Trk_init 1 := ⟨⟨gw_in 72 (by decide +kernel) (by decide +kernel), gw_in 5 (by decide +kernel) (by decide +kernel), by decide +kernel, by decide +kernel, by decide +kernel⟩, gw_in 70 (by decide +kernel) (by decide +kernel), gw_in 71 (by decide +kernel) (by decide +kernel), rfl, rfl⟩
theorem f_PgW_30 : FL R_PgW 30 7 2 (.object "PageFile$Track") true R_PgW := ⟨R_PgW, T_PgW, 8, ty_PgW, rfl, i_PgW, ok_PgW, nm_PgW, by decide, gw_in 151 (by decide +kernel) (by decide +kernel), rfl, rfl, rfl⟩
theorem f_PgW_34 : FL R_PgW 34 7 3 (.object "PageFile$Track") true R_PgW := ⟨R_PgW, T_PgW, 8, ty_PgW, rfl, i_PgW, ok_PgW, nm_PgW, by decide, gw_in 152 (by decide +kernel) (by decide +kernel), rfl, rfl, rfl⟩
theorem n_PgW_37 : NW R_PgW 37 4 [.null, .int 0, .null, .null, .null, .int 0, .int 0, .int 0, .int 0, .int 0, .int 0, .int 0, .null] 13 := ⟨R_Fra, T_Fra, ty_Fra, rfl, i_Fra, ok_Fra, gw_in 92 (by decide +kernel) (by decide +kernel), gw_in 93 (by decide +kernel) (by decide +kernel), gw_in 6 (by decide +kernel) (by decide +kernel), by decide +kernel⟩
theorem c_PgW_39 : OKI R_PgW 39 t_Fra_init 1 := ⟨⟨gw_in 96 (by decide +kernel) (by decide +kernel), gw_in 6 (by decide +kernel) (by decide +kernel), by decide +kernel, by decide +kernel, by decide +kernel⟩, gw_in 94 (by decide +kernel) (by decide +kernel), gw_in 95 (by decide +kernel) (by decide +kernel), rfl, rfl⟩
theorem f_PgW_42 : FL R_PgW 42 7 4 (.object "PageFile$Frame") true R_PgW := ⟨R_PgW, T_PgW, 8, ty_PgW, rfl, i_PgW, ok_PgW, nm_PgW, by decide, gw_in 153 (by decide +kernel) (by decide +kernel), rfl, rfl, rfl⟩
theorem c_PgW_46 : OKV R_PgW 46 t_Trk_restart 0 := ⟨⟨gw_in 580 (by decide +kernel) (by decide +kernel), gw_in 5 (by decide +kernel) (by decide +kernel), by decide +kernel, by decide +kernel, by decide +kernel⟩, gw_in 577 (by decide +kernel) (by decide +kernel), gw_in 578 (by decide +kernel) (by decide +kernel), gw_in 579 (by decide +kernel) (by decide +kernel)⟩
theorem f_PgW_49 : FL R_PgW 49 7 5 (.int) false R_PgW := ⟨R_PgW, T_PgW, 8, ty_PgW, rfl, i_PgW, ok_PgW, nm_PgW, by decide, gw_in 154 (by decide +kernel) (by decide +kernel), rfl, rfl, rfl⟩
theorem f_PgW_53 : FL R_PgW 53 7 6 (.int) false R_PgW := ⟨R_PgW, T_PgW, 8, ty_PgW, rfl, i_PgW, ok_PgW, nm_PgW, by decide, gw_in 155 (by decide +kernel) (by decide +kernel), rfl, rfl, rfl⟩
theorem f_PgW_56 : FL R_PgW 56 7 7 (.boolean) false R_PgW := ⟨R_PgW, T_PgW, 8, ty_PgW, rfl, i_PgW, ok_PgW, nm_PgW, by decide, gw_in 157 (by decide +kernel) (by decide +kernel), rfl, rfl, rfl⟩
theorem f_PgW_60 : FL R_PgW 60 1 4 (.object "PageFile$Item") true R_Box := ⟨R_Box, T_Box, 7, ty_Box, rfl, i_Box, ok_Box, nm_Box, by decide, gw_in 397 (by decide +kernel) (by decide +kernel), rfl, rfl, rfl⟩
theorem f_PgW_66 : FL R_PgW 66 1 2 (.int) true R_Box := ⟨R_Box, T_Box, 7, ty_Box, rfl, i_Box, ok_Box, nm_Box, by decide, gw_in 390 (by decide +kernel) (by decide +kernel), rfl, rfl, rfl⟩
theorem c_PgW_69 : OKV R_PgW 69 t_PgW_moveTo 2 := ⟨⟨gw_in 584 (by decide +kernel) (by decide +kernel), gw_in 2 (by decide +kernel) (by decide +kernel), by decide +kernel, by decide +kernel, by decide +kernel⟩, gw_in 581 (by decide +kernel) (by decide +kernel), gw_in 583 (by decide +kernel) (by decide +kernel), gw_sel 8 (by decide +kernel) (by decide +kernel)⟩
theorem c_PgW_73 : OKV R_PgW 73 t_PgW_enter 2 := ⟨⟨gw_in 603 (by decide +kernel) (by decide +kernel), gw_in 2 (by decide +kernel) (by decide +kernel), by decide +kernel, by decide +kernel, by decide +kernel⟩, gw_in 600 (by decide +kernel) (by decide +kernel), gw_in 602 (by decide +kernel) (by decide +kernel), gw_sel 9 (by decide +kernel) (by decide +kernel)⟩
theorem f_PgW_77 : FLN R_PgW 77 4 12 (.object "PageFile$Item") false "PageFile" := ⟨R_Fra, T_Fra, 13, ty_Fra, rfl, i_Fra, ok_Fra, nm_Fra, by decide, nw_in 118 (by decide +kernel) (by decide +kernel), rfl, rfl⟩
theorem c_PgW_80 : OKV R_PgW 80 t_PgW_leave 1 := ⟨⟨gw_in 617 (by decide +kernel) (by decide +kernel), gw_in 2 (by decide +kernel) (by decide +kernel), by decide +kernel, by decide +kernel, by decide +kernel⟩, gw_in 614 (by decide +kernel) (by decide +kernel), gw_in 616 (by decide +kernel) (by decide +kernel), gw_sel 10 (by decide +kernel) (by decide +kernel)⟩
theorem f_PgW_84 : FL R_PgW 84 5 9 (.object "PageFile$Item") false R_Itm := ⟨R_Itm, T_Itm, 10, ty_Itm, rfl, i_Itm, ok_Itm, nm_Itm, by decide, gw_in 317 (by decide +kernel) (by decide +kernel), rfl, rfl, rfl⟩
theorem c_PgW_87 : OKV R_PgW 87 t_PgW_writeItem 2 := ⟨⟨gw_in 622 (by decide +kernel) (by decide +kernel), gw_in 2 (by decide +kernel) (by decide +kernel), by decide +kernel, by decide +kernel, by decide +kernel⟩, gw_in 619 (by decide +kernel) (by decide +kernel), gw_in 621 (by decide +kernel) (by decide +kernel), gw_sel 11 (by decide +kernel) (by decide +kernel)⟩
theorem c_PgW_91 : OKV R_PgW 91 t_Fra_rightOf 1 := ⟨⟨gw_in 626 (by decide +kernel) (by decide +kernel), gw_in 6 (by decide +kernel) (by decide +kernel), by decide +kernel, by decide +kernel, by decide +kernel⟩, gw_in 623 (by decide +kernel) (by decide +kernel), gw_in 624 (by decide +kernel) (by decide +kernel), gw_in 625 (by decide +kernel) (by decide +kernel)⟩
theorem c_PgW_95 : OKV R_PgW 95 t_Fra_downOf 1 := ⟨⟨gw_in 630 (by decide +kernel) (by decide +kernel), gw_in 6 (by decide +kernel) (by decide +kernel), by decide +kernel, by decide +kernel, by decide +kernel⟩, gw_in 627 (by decide +kernel) (by decide +kernel), gw_in 628 (by decide +kernel) (by decide +kernel), gw_in 629 (by decide +kernel) (by decide +kernel)⟩
theorem c_PgW_98 : OKV R_PgW 98 t_Fra_behind 1 := ⟨⟨gw_in 646 (by decide +kernel) (by decide +kernel), gw_in 6 (by decide +kernel) (by decide +kernel), by decide +kernel, by decide +kernel, by decide +kernel⟩, gw_in 643 (by decide +kernel) (by decide +kernel), gw_in 644 (by decide +kernel) (by decide +kernel), gw_in 645 (by decide +kernel) (by decide +kernel)⟩
theorem c_PgW_101 : OKSN R_PgW 101 t_PF_areSizes 3 := ⟨⟨gw_in 278 (by decide +kernel) (by decide +kernel), gw_in 1 (by decide +kernel) (by decide +kernel), by decide +kernel, by decide +kernel, by decide +kernel⟩, ⟨"PageFile", nw_in 647 (by decide +kernel) (by decide +kernel)⟩, gw_in 277 (by decide +kernel) (by decide +kernel)⟩
theorem c_PgW_105 : OKS R_PgW 105 t_PgW_canStand 3 := ⟨⟨gw_in 650 (by decide +kernel) (by decide +kernel), gw_in 2 (by decide +kernel) (by decide +kernel), by decide +kernel, by decide +kernel, by decide +kernel⟩, gw_in 648 (by decide +kernel) (by decide +kernel), gw_in 649 (by decide +kernel) (by decide +kernel)⟩
theorem f_PgW_109 : FLN R_PgW 109 4 11 (.int) false "PageFile" := ⟨R_Fra, T_Fra, 13, ty_Fra, rfl, i_Fra, ok_Fra, nm_Fra, by decide, nw_in 116 (by decide +kernel) (by decide +kernel), rfl, rfl⟩
theorem c_PgW_112 : OKS R_PgW 112 t_PgW_isWritten 2 := ⟨⟨gw_in 655 (by decide +kernel) (by decide +kernel), gw_in 2 (by decide +kernel) (by decide +kernel), by decide +kernel, by decide +kernel, by decide +kernel⟩, gw_in 653 (by decide +kernel) (by decide +kernel), gw_in 654 (by decide +kernel) (by decide +kernel)⟩
theorem f_PgW_116 : FL R_PgW 116 5 8 (.object "PageFile$Box") false R_Itm := ⟨R_Itm, T_Itm, 10, ty_Itm, rfl, i_Itm, ok_Itm, nm_Itm, by decide, gw_in 314 (by decide +kernel) (by decide +kernel), rfl, rfl, rfl⟩
theorem c_PgW_120 : OKV R_PgW 120 t_Fra_inside 0 := ⟨⟨gw_in 663 (by decide +kernel) (by decide +kernel), gw_in 6 (by decide +kernel) (by decide +kernel), by decide +kernel, by decide +kernel, by decide +kernel⟩, gw_in 660 (by decide +kernel) (by decide +kernel), gw_in 661 (by decide +kernel) (by decide +kernel), gw_in 662 (by decide +kernel) (by decide +kernel)⟩
theorem f_PgW_124 : FL R_PgW 124 5 0 (.int) true R_Itm := ⟨R_Itm, T_Itm, 10, ty_Itm, rfl, i_Itm, ok_Itm, nm_Itm, by decide, gw_in 291 (by decide +kernel) (by decide +kernel), rfl, rfl, rfl⟩
theorem c_PgW_127 : OKV R_PgW 127 t_PgW_writeRule 2 := ⟨⟨gw_in 669 (by decide +kernel) (by decide +kernel), gw_in 2 (by decide +kernel) (by decide +kernel), by decide +kernel, by decide +kernel, by decide +kernel⟩, gw_in 666 (by decide +kernel) (by decide +kernel), gw_in 668 (by decide +kernel) (by decide +kernel), gw_sel 12 (by decide +kernel) (by decide +kernel)⟩
theorem c_PgW_131 : OKV R_PgW 131 t_PgW_writeCharacter 1 := ⟨⟨gw_in 673 (by decide +kernel) (by decide +kernel), gw_in 2 (by decide +kernel) (by decide +kernel), by decide +kernel, by decide +kernel, by decide +kernel⟩, gw_in 670 (by decide +kernel) (by decide +kernel), gw_in 672 (by decide +kernel) (by decide +kernel), gw_sel 13 (by decide +kernel) (by decide +kernel)⟩
theorem c_PgW_135 : OKV R_PgW 135 t_Fra_extentOf 1 := ⟨⟨gw_in 634 (by decide +kernel) (by decide +kernel), gw_in 6 (by decide +kernel) (by decide +kernel), by decide +kernel, by decide +kernel, by decide +kernel⟩, gw_in 651 (by decide +kernel) (by decide +kernel), gw_in 632 (by decide +kernel) (by decide +kernel), gw_in 633 (by decide +kernel) (by decide +kernel)⟩
theorem c_PgW_138 : OKSN R_PgW 138 t_PF_isSize 1 := ⟨⟨gw_in 281 (by decide +kernel) (by decide +kernel), gw_in 1 (by decide +kernel) (by decide +kernel), by decide +kernel, by decide +kernel, by decide +kernel⟩, ⟨"PageFile", nw_in 652 (by decide +kernel) (by decide +kernel)⟩, gw_in 280 (by decide +kernel) (by decide +kernel)⟩
theorem f_PgW_142 : FL R_PgW 142 1 0 (.boolean) true R_Box := ⟨R_Box, T_Box, 7, ty_Box, rfl, i_Box, ok_Box, nm_Box, by decide, gw_in 385 (by decide +kernel) (by decide +kernel), rfl, rfl, rfl⟩
theorem c_PgW_145 : OKV R_PgW 145 t_Fra_widthOf 1 := ⟨⟨gw_in 659 (by decide +kernel) (by decide +kernel), gw_in 6 (by decide +kernel) (by decide +kernel), by decide +kernel, by decide +kernel, by decide +kernel⟩, gw_in 656 (by decide +kernel) (by decide +kernel), gw_in 657 (by decide +kernel) (by decide +kernel), gw_in 658 (by decide +kernel) (by decide +kernel)⟩
theorem c_PgW_149 : OKV R_PgW 149 t_Trk_goTo 2 := ⟨⟨gw_in 588 (by decide +kernel) (by decide +kernel), gw_in 5 (by decide +kernel) (by decide +kernel), by decide +kernel, by decide +kernel, by decide +kernel⟩, gw_in 585 (by decide +kernel) (by decide +kernel), gw_in 586 (by decide +kernel) (by decide +kernel), gw_in 587 (by decide +kernel) (by decide +kernel)⟩
theorem f_PgW_153 : FL R_PgW 153 5 4 (.int) false R_Itm := ⟨R_Itm, T_Itm, 10, ty_Itm, rfl, i_Itm, ok_Itm, nm_Itm, by decide, gw_in 305 (by decide +kernel) (by decide +kernel), rfl, rfl, rfl⟩
theorem c_PgW_156 : OKV R_PgW 156 t_Fon_isUsed 1 := ⟨⟨gw_in 677 (by decide +kernel) (by decide +kernel), gw_in 4 (by decide +kernel) (by decide +kernel), by decide +kernel, by decide +kernel, by decide +kernel⟩, gw_in 674 (by decide +kernel) (by decide +kernel), gw_in 675 (by decide +kernel) (by decide +kernel), gw_in 676 (by decide +kernel) (by decide +kernel)⟩
theorem c_PgW_160 : OKV R_PgW 160 t_Fon_write 2 := ⟨⟨gw_in 681 (by decide +kernel) (by decide +kernel), gw_in 4 (by decide +kernel) (by decide +kernel), by decide +kernel, by decide +kernel, by decide +kernel⟩, gw_in 678 (by decide +kernel) (by decide +kernel), gw_in 679 (by decide +kernel) (by decide +kernel), gw_in 680 (by decide +kernel) (by decide +kernel)⟩
theorem c_PgW_164 : OKV R_PgW 164 t_Byt_add 2 := ⟨⟨gw_in 550 (by decide +kernel) (by decide +kernel), gw_in 3 (by decide +kernel) (by decide +kernel), by decide +kernel, by decide +kernel, by decide +kernel⟩, gw_in 604 (by decide +kernel) (by decide +kernel), gw_in 548 (by decide +kernel) (by decide +kernel), gw_in 549 (by decide +kernel) (by decide +kernel)⟩
theorem f_PgW_167 : FL R_PgW 167 5 5 (.int) false R_Itm := ⟨R_Itm, T_Itm, 10, ty_Itm, rfl, i_Itm, ok_Itm, nm_Itm, by decide, gw_in 307 (by decide +kernel) (by decide +kernel), rfl, rfl, rfl⟩
theorem f_PgW_170 : FLN R_PgW 170 8 1 (.int) false "PageFile" := ⟨R_Trk, T_Trk, 5, ty_Trk, rfl, i_Trk, ok_Trk, nm_Trk, by decide, nw_in 77 (by decide +kernel) (by decide +kernel), rfl, rfl⟩
theorem f_PgW_173 : FL R_PgW 173 5 1 (.int) true R_Itm := ⟨R_Itm, T_Itm, 10, ty_Itm, rfl, i_Itm, ok_Itm, nm_Itm, by decide, gw_in 297 (by decide +kernel) (by decide +kernel), rfl, rfl, rfl⟩
theorem f_PgW_176 : FLN R_PgW 176 4 5 (.boolean) false "PageFile" := ⟨R_Fra, T_Fra, 13, ty_Fra, rfl, i_Fra, ok_Fra, nm_Fra, by decide, nw_in 110 (by decide +kernel) (by decide +kernel), rfl, rfl⟩
theorem c_PgW_177 : OKV R_PgW 177 t_Fra_begin 3 := ⟨⟨gw_in 608 (by decide +kernel) (by decide +kernel), gw_in 6 (by decide +kernel) (by decide +kernel), by decide +kernel, by decide +kernel, by decide +kernel⟩, gw_in 605 (by decide +kernel) (by decide +kernel), gw_in 606 (by decide +kernel) (by decide +kernel), gw_in 607 (by decide +kernel) (by decide +kernel)⟩
theorem f_PgW_181 : FL R_PgW 181 4 1 (.int) true R_Fra := ⟨R_Fra, T_Fra, 13, ty_Fra, rfl, i_Fra, ok_Fra, nm_Fra, by decide, gw_in 103 (by decide +kernel) (by decide +kernel), rfl, rfl, rfl⟩
theorem mx_PgW_184 : Cond.methodLink R_PgW 184 Lib.Math.max.name ∈ gw := gw_in 613 (by decide +kernel) (by decide +kernel)
theorem f_PgW_190 : FLN R_PgW 190 4 2 (.object "PageFile$Track") true "PageFile" := ⟨R_Fra, T_Fra, 13, ty_Fra, rfl, i_Fra, ok_Fra, nm_Fra, by decide, nw_in 105 (by decide +kernel) (by decide +kernel), rfl, rfl⟩
theorem c_PgW_193 : OKV R_PgW 193 t_Trk_become 1 := ⟨⟨gw_in 612 (by decide +kernel) (by decide +kernel), gw_in 5 (by decide +kernel) (by decide +kernel), by decide +kernel, by decide +kernel, by decide +kernel⟩, gw_in 618 (by decide +kernel) (by decide +kernel), gw_in 610 (by decide +kernel) (by decide +kernel), gw_in 611 (by decide +kernel) (by decide +kernel)⟩
theorem f_PgW_197 : FLN R_PgW 197 4 3 (.object "PageFile$Track") true "PageFile" := ⟨R_Fra, T_Fra, 13, ty_Fra, rfl, i_Fra, ok_Fra, nm_Fra, by decide, nw_in 107 (by decide +kernel) (by decide +kernel), rfl, rfl⟩
theorem f_PgW_200 : FL R_PgW 200 4 0 (.object "PageFile$Frame") true R_Fra := ⟨R_Fra, T_Fra, 13, ty_Fra, rfl, i_Fra, ok_Fra, nm_Fra, by decide, gw_in 101 (by decide +kernel) (by decide +kernel), rfl, rfl, rfl⟩
theorem oi_PF : Cond.methodLink R_PF 3 objectInit ∈ gw := gw_in 24 (by decide +kernel) (by decide +kernel)
theorem a_PF_9 : Cond.classLink R_PF 9 R_Box ∈ gw := gw_in 27 (by decide +kernel) (by decide +kernel)
theorem f_PF_11 : FL R_PF 11 0 0 (.array (.object "PageFile$Box")) true R_PF := ⟨R_PF, T_PF, 12, ty_PF, rfl, i_PF, ok_PF, nm_PF, by decide, gw_in 175 (by decide +kernel) (by decide +kernel), rfl, rfl, rfl⟩
theorem n_PF_15 : NW R_PF 15 7 [.null, .null, .null, .null, .null, .int 0, .int 0, .int 0] 8 := ⟨R_PgW, T_PgW, ty_PgW, rfl, i_PgW, ok_PgW, gw_in 29 (by decide +kernel) (by decide +kernel), gw_in 30 (by decide +kernel) (by decide +kernel), gw_in 2 (by decide +kernel) (by decide +kernel), by decide +kernel⟩
theorem c_PF_17 : OKIN R_PF 17 t_PgW_init 0 := ⟨⟨gw_in 33 (by decide +kernel) (by decide +kernel), gw_in 2 (by decide +kernel) (by decide +kernel), by decide +kernel, by decide +kernel, by decide +kernel⟩, ⟨"PageFile", nw_in 31 (by decide +kernel) (by decide +kernel)⟩, gw_in 32 (by decide +kernel) (by decide +kernel), rfl, rfl⟩
theorem f_PF_18 : FL R_PF 18 0 1 (.object "PageFile$PageWriter") true R_PF := ⟨R_PF, T_PF, 12, ty_PF, rfl, i_PF, ok_PF, nm_PF, by decide, gw_in 176 (by decide +kernel) (by decide +kernel), rfl, rfl, rfl⟩
theorem f_PF_22 : FLN R_PF 22 7 0 (.object "PageFile$Bytes") true "PageFile" := ⟨R_PgW, T_PgW, 8, ty_PgW, rfl, i_PgW, ok_PgW, nm_PgW, by decide, nw_in 148 (by decide +kernel) (by decide +kernel), rfl, rfl⟩
theorem f_PF_26 : FL R_PF 26 0 2 (.object "PageFile$Bytes") true R_PF := ⟨R_PF, T_PF, 12, ty_PF, rfl, i_PF, ok_PF, nm_PF, by decide, gw_in 177 (by decide +kernel) (by decide +kernel), rfl, rfl, rfl⟩
theorem f_PF_27 : FLN R_PF 27 7 1 (.object "PageFile$Fonts") true "PageFile" := ⟨R_PgW, T_PgW, 8, ty_PgW, rfl, i_PgW, ok_PgW, nm_PgW, by decide, nw_in 150 (by decide +kernel) (by decide +kernel), rfl, rfl⟩
theorem f_PF_31 : FL R_PF 31 0 3 (.object "PageFile$Fonts") true R_PF := ⟨R_PF, T_PF, 12, ty_PF, rfl, i_PF, ok_PF, nm_PF, by decide, gw_in 178 (by decide +kernel) (by decide +kernel), rfl, rfl, rfl⟩
theorem f_PF_32 : FL R_PF 32 0 7 (.int) false R_PF := ⟨R_PF, T_PF, 12, ty_PF, rfl, i_PF, ok_PF, nm_PF, by decide, gw_in 182 (by decide +kernel) (by decide +kernel), rfl, rfl, rfl⟩
theorem c_PF_36 : OKS R_PF 36 t_PF_isFont 1 := ⟨⟨gw_in 218 (by decide +kernel) (by decide +kernel), gw_in 1 (by decide +kernel) (by decide +kernel), by decide +kernel, by decide +kernel, by decide +kernel⟩, gw_in 216 (by decide +kernel) (by decide +kernel), gw_in 217 (by decide +kernel) (by decide +kernel)⟩
theorem c_PF_40 : OKV R_PF 40 t_Fon_keep 3 := ⟨⟨gw_in 222 (by decide +kernel) (by decide +kernel), gw_in 4 (by decide +kernel) (by decide +kernel), by decide +kernel, by decide +kernel, by decide +kernel⟩, gw_in 219 (by decide +kernel) (by decide +kernel), gw_in 220 (by decide +kernel) (by decide +kernel), gw_in 221 (by decide +kernel) (by decide +kernel)⟩
theorem f_PF_46 : FL R_PF 46 0 4 (.object "PageFile$OpenList") false R_PF := ⟨R_PF, T_PF, 12, ty_PF, rfl, i_PF, ok_PF, nm_PF, by decide, gw_in 179 (by decide +kernel) (by decide +kernel), rfl, rfl, rfl⟩
theorem f_PF_50 : FL R_PF 50 6 2 (.int) true R_OpL := ⟨R_OpL, T_OpL, 10, ty_OpL, rfl, i_OpL, ok_OpL, nm_OpL, by decide, gw_in 240 (by decide +kernel) (by decide +kernel), rfl, rfl, rfl⟩
theorem n_PF_51 : NW R_PF 51 6 [.int 0, .null, .int 0, .null, .null, .int 0, .int 0, .long 0, .long 0, .long 0] 10 := ⟨R_OpL, T_OpL, ty_OpL, rfl, i_OpL, ok_OpL, gw_in 228 (by decide +kernel) (by decide +kernel), gw_in 229 (by decide +kernel) (by decide +kernel), gw_in 8 (by decide +kernel) (by decide +kernel), by decide +kernel⟩
theorem c_PF_55 : OKI R_PF 55 t_OpL_init 2 := ⟨⟨gw_in 232 (by decide +kernel) (by decide +kernel), gw_in 8 (by decide +kernel) (by decide +kernel), by decide +kernel, by decide +kernel, by decide +kernel⟩, gw_in 230 (by decide +kernel) (by decide +kernel), gw_in 231 (by decide +kernel) (by decide +kernel), rfl, rfl⟩
theorem f_PF_58 : FL R_PF 58 6 0 (.boolean) true R_OpL := ⟨R_OpL, T_OpL, 10, ty_OpL, rfl, i_OpL, ok_OpL, nm_OpL, by decide, gw_in 236 (by decide +kernel) (by decide +kernel), rfl, rfl, rfl⟩
theorem f_PF_62 : FL R_PF 62 0 5 (.int) false R_PF := ⟨R_PF, T_PF, 12, ty_PF, rfl, i_PF, ok_PF, nm_PF, by decide, gw_in 180 (by decide +kernel) (by decide +kernel), rfl, rfl, rfl⟩
theorem c_PF_65 : OKS R_PF 65 t_PF_areSizes 3 := ⟨⟨gw_in 278 (by decide +kernel) (by decide +kernel), gw_in 1 (by decide +kernel) (by decide +kernel), by decide +kernel, by decide +kernel, by decide +kernel⟩, gw_in 276 (by decide +kernel) (by decide +kernel), gw_in 277 (by decide +kernel) (by decide +kernel)⟩
theorem n_PF_69 : NW R_PF 69 5 [.int 0, .int 0, .int 0, .int 0, .int 0, .int 0, .int 0, .int 0, .null, .null] 10 := ⟨R_Itm, T_Itm, ty_Itm, rfl, i_Itm, ok_Itm, gw_in 284 (by decide +kernel) (by decide +kernel), gw_in 285 (by decide +kernel) (by decide +kernel), gw_in 9 (by decide +kernel) (by decide +kernel), by decide +kernel⟩
theorem c_PF_71 : OKI R_PF 71 t_Itm_init 4 := ⟨⟨gw_in 288 (by decide +kernel) (by decide +kernel), gw_in 9 (by decide +kernel) (by decide +kernel), by decide +kernel, by decide +kernel, by decide +kernel⟩, gw_in 286 (by decide +kernel) (by decide +kernel), gw_in 287 (by decide +kernel) (by decide +kernel), rfl, rfl⟩
theorem f_PF_74 : FL R_PF 74 5 4 (.int) false R_Itm := ⟨R_Itm, T_Itm, 10, ty_Itm, rfl, i_Itm, ok_Itm, nm_Itm, by decide, gw_in 304 (by decide +kernel) (by decide +kernel), rfl, rfl, rfl⟩
theorem f_PF_77 : FL R_PF 77 5 5 (.int) false R_Itm := ⟨R_Itm, T_Itm, 10, ty_Itm, rfl, i_Itm, ok_Itm, nm_Itm, by decide, gw_in 306 (by decide +kernel) (by decide +kernel), rfl, rfl, rfl⟩
theorem c_PF_80 : OKV R_PF 80 t_OpL_join 1 := ⟨⟨gw_in 342 (by decide +kernel) (by decide +kernel), gw_in 8 (by decide +kernel) (by decide +kernel), by decide +kernel, by decide +kernel, by decide +kernel⟩, gw_in 339 (by decide +kernel) (by decide +kernel), gw_in 340 (by decide +kernel) (by decide +kernel), gw_in 341 (by decide +kernel) (by decide +kernel)⟩
theorem f_PF_84 : FL R_PF 84 5 6 (.int) false R_Itm := ⟨R_Itm, T_Itm, 10, ty_Itm, rfl, i_Itm, ok_Itm, nm_Itm, by decide, gw_in 309 (by decide +kernel) (by decide +kernel), rfl, rfl, rfl⟩
theorem c_PF_87 : OKS R_PF 87 t_PF_isSize 1 := ⟨⟨gw_in 281 (by decide +kernel) (by decide +kernel), gw_in 1 (by decide +kernel) (by decide +kernel), by decide +kernel, by decide +kernel, by decide +kernel⟩, gw_in 279 (by decide +kernel) (by decide +kernel), gw_in 280 (by decide +kernel) (by decide +kernel)⟩
theorem c_PF_91 : OKS R_PF 91 t_PF_isRegister 1 := ⟨⟨gw_in 371 (by decide +kernel) (by decide +kernel), gw_in 1 (by decide +kernel) (by decide +kernel), by decide +kernel, by decide +kernel, by decide +kernel⟩, gw_in 369 (by decide +kernel) (by decide +kernel), gw_in 370 (by decide +kernel) (by decide +kernel)⟩
theorem c_PF_94 : OKV R_PF 94 t_OpL_toBox 0 := ⟨⟨gw_in 375 (by decide +kernel) (by decide +kernel), gw_in 8 (by decide +kernel) (by decide +kernel), by decide +kernel, by decide +kernel, by decide +kernel⟩, gw_in 372 (by decide +kernel) (by decide +kernel), gw_in 373 (by decide +kernel) (by decide +kernel), gw_in 374 (by decide +kernel) (by decide +kernel)⟩
theorem f_PF_98 : FL R_PF 98 6 1 (.object "PageFile$OpenList") true R_OpL := ⟨R_OpL, T_OpL, 10, ty_OpL, rfl, i_OpL, ok_OpL, nm_OpL, by decide, gw_in 238 (by decide +kernel) (by decide +kernel), rfl, rfl, rfl⟩
theorem c_PF_101 : OKV R_PF 101 t_PF_dropBox 1 := ⟨⟨gw_in 422 (by decide +kernel) (by decide +kernel), gw_in 1 (by decide +kernel) (by decide +kernel), by decide +kernel, by decide +kernel, by decide +kernel⟩, gw_in 419 (by decide +kernel) (by decide +kernel), gw_in 421 (by decide +kernel) (by decide +kernel), gw_sel 2 (by decide +kernel) (by decide +kernel)⟩
theorem c_PF_105 : OKV R_PF 105 t_PF_boxOf 1 := ⟨⟨gw_in 426 (by decide +kernel) (by decide +kernel), gw_in 1 (by decide +kernel) (by decide +kernel), by decide +kernel, by decide +kernel, by decide +kernel⟩, gw_in 423 (by decide +kernel) (by decide +kernel), gw_in 425 (by decide +kernel) (by decide +kernel), gw_sel 3 (by decide +kernel) (by decide +kernel)⟩
theorem f_PF_109 : FL R_PF 109 1 5 (.int) true R_Box := ⟨R_Box, T_Box, 7, ty_Box, rfl, i_Box, ok_Box, nm_Box, by decide, gw_in 401 (by decide +kernel) (by decide +kernel), rfl, rfl, rfl⟩
theorem f_PF_110 : FL R_PF 110 1 1 (.int) true R_Box := ⟨R_Box, T_Box, 7, ty_Box, rfl, i_Box, ok_Box, nm_Box, by decide, gw_in 388 (by decide +kernel) (by decide +kernel), rfl, rfl, rfl⟩
theorem f_PF_113 : FL R_PF 113 1 2 (.int) true R_Box := ⟨R_Box, T_Box, 7, ty_Box, rfl, i_Box, ok_Box, nm_Box, by decide, gw_in 392 (by decide +kernel) (by decide +kernel), rfl, rfl, rfl⟩
theorem f_PF_116 : FL R_PF 116 1 3 (.int) true R_Box := ⟨R_Box, T_Box, 7, ty_Box, rfl, i_Box, ok_Box, nm_Box, by decide, gw_in 395 (by decide +kernel) (by decide +kernel), rfl, rfl, rfl⟩
theorem f_PF_119 : FL R_PF 119 5 8 (.object "PageFile$Box") false R_Itm := ⟨R_Itm, T_Itm, 10, ty_Itm, rfl, i_Itm, ok_Itm, nm_Itm, by decide, gw_in 315 (by decide +kernel) (by decide +kernel), rfl, rfl, rfl⟩
theorem f_PF_123 : FL R_PF 123 5 7 (.int) false R_Itm := ⟨R_Itm, T_Itm, 10, ty_Itm, rfl, i_Itm, ok_Itm, nm_Itm, by decide, gw_in 312 (by decide +kernel) (by decide +kernel), rfl, rfl, rfl⟩
theorem f_PF_126 : FL R_PF 126 0 11 (.boolean) false R_PF := ⟨R_PF, T_PF, 12, ty_PF, rfl, i_PF, ok_PF, nm_PF, by decide, gw_in 186 (by decide +kernel) (by decide +kernel), rfl, rfl, rfl⟩
theorem f_PF_136 : FLN R_PF 136 2 1 (.int) false "PageFile" := ⟨R_Byt, T_Byt, 2, ty_Byt, rfl, i_Byt, ok_Byt, nm_Byt, by decide, nw_in 43 (by decide +kernel) (by decide +kernel), rfl, rfl⟩
theorem k_PF_141 : Cond.constant R_PF 141 200000 ∈ gw := gw_in 522 (by decide +kernel) (by decide +kernel)
theorem c_PF_147 : OKV R_PF 147 t_PF_writePage 1 := ⟨⟨gw_in 542 (by decide +kernel) (by decide +kernel), gw_in 1 (by decide +kernel) (by decide +kernel), by decide +kernel, by decide +kernel, by decide +kernel⟩, gw_in 539 (by decide +kernel) (by decide +kernel), gw_in 541 (by decide +kernel) (by decide +kernel), gw_sel 5 (by decide +kernel) (by decide +kernel)⟩
theorem c_PF_155 : OKV R_PF 155 t_PF_writeBeginning 0 := ⟨⟨gw_in 546 (by decide +kernel) (by decide +kernel), gw_in 1 (by decide +kernel) (by decide +kernel), by decide +kernel, by decide +kernel, by decide +kernel⟩, gw_in 543 (by decide +kernel) (by decide +kernel), gw_in 545 (by decide +kernel) (by decide +kernel), gw_sel 6 (by decide +kernel) (by decide +kernel)⟩
theorem c_PF_158 : OKV R_PF 158 t_Byt_add 2 := ⟨⟨gw_in 550 (by decide +kernel) (by decide +kernel), gw_in 3 (by decide +kernel) (by decide +kernel), by decide +kernel, by decide +kernel, by decide +kernel⟩, gw_in 547 (by decide +kernel) (by decide +kernel), gw_in 548 (by decide +kernel) (by decide +kernel), gw_in 549 (by decide +kernel) (by decide +kernel)⟩
theorem c_PF_162 : OKV R_PF 162 t_PF_writeUnits 0 := ⟨⟨gw_in 570 (by decide +kernel) (by decide +kernel), gw_in 1 (by decide +kernel) (by decide +kernel), by decide +kernel, by decide +kernel, by decide +kernel⟩, gw_in 567 (by decide +kernel) (by decide +kernel), gw_in 569 (by decide +kernel) (by decide +kernel), gw_sel 7 (by decide +kernel) (by decide +kernel)⟩
theorem f_PF_165 : FL R_PF 165 0 8 (.int) false R_PF := ⟨R_PF, T_PF, 12, ty_PF, rfl, i_PF, ok_PF, nm_PF, by decide, gw_in 183 (by decide +kernel) (by decide +kernel), rfl, rfl, rfl⟩
theorem f_PF_168 : FL R_PF 168 0 9 (.int) false R_PF := ⟨R_PF, T_PF, 12, ty_PF, rfl, i_PF, ok_PF, nm_PF, by decide, gw_in 184 (by decide +kernel) (by decide +kernel), rfl, rfl, rfl⟩
theorem f_PF_171 : FL R_PF 171 0 10 (.int) false R_PF := ⟨R_PF, T_PF, 12, ty_PF, rfl, i_PF, ok_PF, nm_PF, by decide, gw_in 185 (by decide +kernel) (by decide +kernel), rfl, rfl, rfl⟩
theorem f_PF_174 : FL R_PF 174 0 6 (.int) false R_PF := ⟨R_PF, T_PF, 12, ty_PF, rfl, i_PF, ok_PF, nm_PF, by decide, gw_in 181 (by decide +kernel) (by decide +kernel), rfl, rfl, rfl⟩
theorem c_PF_177 : OKV R_PF 177 t_Fon_isUsed 1 := ⟨⟨gw_in 677 (by decide +kernel) (by decide +kernel), gw_in 4 (by decide +kernel) (by decide +kernel), by decide +kernel, by decide +kernel, by decide +kernel⟩, gw_in 697 (by decide +kernel) (by decide +kernel), gw_in 675 (by decide +kernel) (by decide +kernel), gw_in 676 (by decide +kernel) (by decide +kernel)⟩
theorem c_PF_180 : OKV R_PF 180 t_Fon_write 2 := ⟨⟨gw_in 681 (by decide +kernel) (by decide +kernel), gw_in 4 (by decide +kernel) (by decide +kernel), by decide +kernel, by decide +kernel, by decide +kernel⟩, gw_in 698 (by decide +kernel) (by decide +kernel), gw_in 679 (by decide +kernel) (by decide +kernel), gw_in 680 (by decide +kernel) (by decide +kernel)⟩
theorem c_PF_184 : OKV R_PF 184 t_Byt_get 1 := ⟨⟨gw_in 438 (by decide +kernel) (by decide +kernel), gw_in 3 (by decide +kernel) (by decide +kernel), by decide +kernel, by decide +kernel, by decide +kernel⟩, gw_in 435 (by decide +kernel) (by decide +kernel), gw_in 436 (by decide +kernel) (by decide +kernel), gw_in 437 (by decide +kernel) (by decide +kernel)⟩
theorem k_PF_188 : Cond.constantLong R_PF 188 (-1073741823) ∈ gw := gw_in 282 (by decide +kernel) (by decide +kernel)
theorem k_PF_190 : Cond.constantLong R_PF 190 1073741823 ∈ gw := gw_in 283 (by decide +kernel) (by decide +kernel)
theorem f_PF_192 : FLN R_PF 192 3 2 (.int) false "PageFile" := ⟨R_Fon, T_Fon, 3, ty_Fon, rfl, i_Fon, ok_Fon, nm_Fon, by decide, nw_in 59 (by decide +kernel) (by decide +kernel), rfl, rfl⟩
theorem c_PF_195 : OKV R_PF 195 t_PgW_writeBox 1 := ⟨⟨gw_in 576 (by decide +kernel) (by decide +kernel), gw_in 2 (by decide +kernel) (by decide +kernel), by decide +kernel, by decide +kernel, by decide +kernel⟩, gw_in 573 (by decide +kernel) (by decide +kernel), gw_in 574 (by decide +kernel) (by decide +kernel), gw_in 575 (by decide +kernel) (by decide +kernel)⟩
theorem c_PF_198 : OKV R_PF 198 t_Byt_cutTo 1 := ⟨⟨gw_in 686 (by decide +kernel) (by decide +kernel), gw_in 3 (by decide +kernel) (by decide +kernel), by decide +kernel, by decide +kernel, by decide +kernel⟩, gw_in 683 (by decide +kernel) (by decide +kernel), gw_in 684 (by decide +kernel) (by decide +kernel), gw_in 685 (by decide +kernel) (by decide +kernel)⟩
theorem mx_PF_201 : Cond.methodLink R_PF 201 Lib.Math.max.name ∈ gw := gw_in 687 (by decide +kernel) (by decide +kernel)
theorem f_PF_207 : FLN R_PF 207 7 6 (.int) false "PageFile" := ⟨R_PgW, T_PgW, 8, ty_PgW, rfl, i_PgW, ok_PgW, nm_PgW, by decide, nw_in 156 (by decide +kernel) (by decide +kernel), rfl, rfl⟩
theorem k_PF_208 : Cond.constant R_PF 208 25400000 ∈ gw := gw_in 571 (by decide +kernel) (by decide +kernel)
theorem k_PF_209 : Cond.constant R_PF 209 473628672 ∈ gw := gw_in 572 (by decide +kernel) (by decide +kernel)
theorem oi_Mod : Cond.methodLink R_Mod 1 objectInit ∈ gw := gw_in 704 (by decide +kernel) (by decide +kernel)
theorem f_Mod_7 : FL R_Mod 7 9 1 (.array (.int)) true R_Mod := ⟨R_Mod, T_Mod, 34, ty_Mod, rfl, i_Mod, ok_Mod, nm_Mod, by decide, gw_in 707 (by decide +kernel) (by decide +kernel), rfl, rfl, rfl⟩
theorem f_Mod_13 : FL R_Mod 13 9 2 (.array (.int)) true R_Mod := ⟨R_Mod, T_Mod, 34, ty_Mod, rfl, i_Mod, ok_Mod, nm_Mod, by decide, gw_in 708 (by decide +kernel) (by decide +kernel), rfl, rfl, rfl⟩
theorem f_Mod_16 : FL R_Mod 16 9 3 (.array (.int)) true R_Mod := ⟨R_Mod, T_Mod, 34, ty_Mod, rfl, i_Mod, ok_Mod, nm_Mod, by decide, gw_in 709 (by decide +kernel) (by decide +kernel), rfl, rfl, rfl⟩
theorem f_Mod_19 : FL R_Mod 19 9 4 (.array (.int)) true R_Mod := ⟨R_Mod, T_Mod, 34, ty_Mod, rfl, i_Mod, ok_Mod, nm_Mod, by decide, gw_in 710 (by decide +kernel) (by decide +kernel), rfl, rfl, rfl⟩
theorem f_Mod_22 : FL R_Mod 22 9 5 (.array (.int)) true R_Mod := ⟨R_Mod, T_Mod, 34, ty_Mod, rfl, i_Mod, ok_Mod, nm_Mod, by decide, gw_in 711 (by decide +kernel) (by decide +kernel), rfl, rfl, rfl⟩
theorem f_Mod_25 : FL R_Mod 25 9 6 (.array (.int)) true R_Mod := ⟨R_Mod, T_Mod, 34, ty_Mod, rfl, i_Mod, ok_Mod, nm_Mod, by decide, gw_in 712 (by decide +kernel) (by decide +kernel), rfl, rfl, rfl⟩
theorem f_Mod_28 : FL R_Mod 28 9 7 (.array (.int)) true R_Mod := ⟨R_Mod, T_Mod, 34, ty_Mod, rfl, i_Mod, ok_Mod, nm_Mod, by decide, gw_in 713 (by decide +kernel) (by decide +kernel), rfl, rfl, rfl⟩
theorem f_Mod_31 : FL R_Mod 31 9 9 (.array (.int)) true R_Mod := ⟨R_Mod, T_Mod, 34, ty_Mod, rfl, i_Mod, ok_Mod, nm_Mod, by decide, gw_in 715 (by decide +kernel) (by decide +kernel), rfl, rfl, rfl⟩
theorem f_Mod_34 : FL R_Mod 34 9 10 (.array (.boolean)) true R_Mod := ⟨R_Mod, T_Mod, 34, ty_Mod, rfl, i_Mod, ok_Mod, nm_Mod, by decide, gw_in 716 (by decide +kernel) (by decide +kernel), rfl, rfl, rfl⟩
theorem f_Mod_38 : FL R_Mod 38 9 12 (.array (.int)) true R_Mod := ⟨R_Mod, T_Mod, 34, ty_Mod, rfl, i_Mod, ok_Mod, nm_Mod, by decide, gw_in 718 (by decide +kernel) (by decide +kernel), rfl, rfl, rfl⟩
theorem f_Mod_41 : FL R_Mod 41 9 13 (.array (.int)) true R_Mod := ⟨R_Mod, T_Mod, 34, ty_Mod, rfl, i_Mod, ok_Mod, nm_Mod, by decide, gw_in 719 (by decide +kernel) (by decide +kernel), rfl, rfl, rfl⟩
theorem f_Mod_44 : FL R_Mod 44 9 14 (.array (.int)) true R_Mod := ⟨R_Mod, T_Mod, 34, ty_Mod, rfl, i_Mod, ok_Mod, nm_Mod, by decide, gw_in 720 (by decide +kernel) (by decide +kernel), rfl, rfl, rfl⟩
theorem f_Mod_47 : FL R_Mod 47 9 15 (.array (.boolean)) true R_Mod := ⟨R_Mod, T_Mod, 34, ty_Mod, rfl, i_Mod, ok_Mod, nm_Mod, by decide, gw_in 721 (by decide +kernel) (by decide +kernel), rfl, rfl, rfl⟩
theorem f_Mod_50 : FL R_Mod 50 9 16 (.array (.boolean)) true R_Mod := ⟨R_Mod, T_Mod, 34, ty_Mod, rfl, i_Mod, ok_Mod, nm_Mod, by decide, gw_in 722 (by decide +kernel) (by decide +kernel), rfl, rfl, rfl⟩
theorem k_Mod_53 : Cond.constant R_Mod 53 320000 ∈ gw := gw_in 705 (by decide +kernel) (by decide +kernel)
theorem f_Mod_54 : FL R_Mod 54 9 17 (.array (.byte)) true R_Mod := ⟨R_Mod, T_Mod, 34, ty_Mod, rfl, i_Mod, ok_Mod, nm_Mod, by decide, gw_in 723 (by decide +kernel) (by decide +kernel), rfl, rfl, rfl⟩
theorem f_Mod_58 : FL R_Mod 58 9 21 (.int) false R_Mod := ⟨R_Mod, T_Mod, 34, ty_Mod, rfl, i_Mod, ok_Mod, nm_Mod, by decide, gw_in 727 (by decide +kernel) (by decide +kernel), rfl, rfl, rfl⟩
theorem f_Mod_62 : FL R_Mod 62 9 25 (.array (.int)) true R_Mod := ⟨R_Mod, T_Mod, 34, ty_Mod, rfl, i_Mod, ok_Mod, nm_Mod, by decide, gw_in 731 (by decide +kernel) (by decide +kernel), rfl, rfl, rfl⟩
theorem f_Mod_65 : FL R_Mod 65 9 26 (.array (.int)) true R_Mod := ⟨R_Mod, T_Mod, 34, ty_Mod, rfl, i_Mod, ok_Mod, nm_Mod, by decide, gw_in 732 (by decide +kernel) (by decide +kernel), rfl, rfl, rfl⟩
theorem f_Mod_68 : FL R_Mod 68 9 28 (.array (.int)) true R_Mod := ⟨R_Mod, T_Mod, 34, ty_Mod, rfl, i_Mod, ok_Mod, nm_Mod, by decide, gw_in 734 (by decide +kernel) (by decide +kernel), rfl, rfl, rfl⟩
theorem f_Mod_71 : FL R_Mod 71 9 29 (.array (.long)) true R_Mod := ⟨R_Mod, T_Mod, 34, ty_Mod, rfl, i_Mod, ok_Mod, nm_Mod, by decide, gw_in 735 (by decide +kernel) (by decide +kernel), rfl, rfl, rfl⟩
theorem f_Mod_75 : FL R_Mod 75 9 30 (.array (.int)) true R_Mod := ⟨R_Mod, T_Mod, 34, ty_Mod, rfl, i_Mod, ok_Mod, nm_Mod, by decide, gw_in 736 (by decide +kernel) (by decide +kernel), rfl, rfl, rfl⟩
theorem f_Mod_78 : FL R_Mod 78 9 31 (.array (.int)) true R_Mod := ⟨R_Mod, T_Mod, 34, ty_Mod, rfl, i_Mod, ok_Mod, nm_Mod, by decide, gw_in 737 (by decide +kernel) (by decide +kernel), rfl, rfl, rfl⟩
theorem f_Mod_81 : FL R_Mod 81 9 0 (.int) false R_Mod := ⟨R_Mod, T_Mod, 34, ty_Mod, rfl, i_Mod, ok_Mod, nm_Mod, by decide, gw_in 706 (by decide +kernel) (by decide +kernel), rfl, rfl, rfl⟩
theorem k_Mod_84 : Cond.constant R_Mod 84 (-1073741823) ∈ gw := gw_in 834 (by decide +kernel) (by decide +kernel)
theorem k_Mod_85 : Cond.constant R_Mod 85 1073741823 ∈ gw := gw_in 835 (by decide +kernel) (by decide +kernel)
theorem k_Mod_86 : Cond.constantLong R_Mod 86 (-1073741823) ∈ gw := gw_in 868 (by decide +kernel) (by decide +kernel)
theorem k_Mod_88 : Cond.constantLong R_Mod 88 1073741823 ∈ gw := gw_in 869 (by decide +kernel) (by decide +kernel)
theorem f_Mod_90 : FL R_Mod 90 9 11 (.int) false R_Mod := ⟨R_Mod, T_Mod, 34, ty_Mod, rfl, i_Mod, ok_Mod, nm_Mod, by decide, gw_in 717 (by decide +kernel) (by decide +kernel), rfl, rfl, rfl⟩
theorem c_Mod_93 : OKV R_Mod 93 t_Mod_shelved 0 := ⟨⟨gw_in 847 (by decide +kernel) (by decide +kernel), gw_in 7 (by decide +kernel) (by decide +kernel), by decide +kernel, by decide +kernel, by decide +kernel⟩, gw_in 844 (by decide +kernel) (by decide +kernel), gw_in 846 (by decide +kernel) (by decide +kernel), gw_sel 17 (by decide +kernel) (by decide +kernel)⟩
theorem f_Mod_97 : FL R_Mod 97 9 8 (.int) false R_Mod := ⟨R_Mod, T_Mod, 34, ty_Mod, rfl, i_Mod, ok_Mod, nm_Mod, by decide, gw_in 714 (by decide +kernel) (by decide +kernel), rfl, rfl, rfl⟩
theorem c_Mod_100 : OKV R_Mod 100 t_Mod_hasRoom 1 := ⟨⟨gw_in 843 (by decide +kernel) (by decide +kernel), gw_in 7 (by decide +kernel) (by decide +kernel), by decide +kernel, by decide +kernel, by decide +kernel⟩, gw_in 840 (by decide +kernel) (by decide +kernel), gw_in 842 (by decide +kernel) (by decide +kernel), gw_sel 16 (by decide +kernel) (by decide +kernel)⟩
theorem c_Mod_104 : OKV R_Mod 104 t_Mod_isVertical 0 := ⟨⟨gw_in 830 (by decide +kernel) (by decide +kernel), gw_in 7 (by decide +kernel) (by decide +kernel), by decide +kernel, by decide +kernel, by decide +kernel⟩, gw_in 827 (by decide +kernel) (by decide +kernel), gw_in 829 (by decide +kernel) (by decide +kernel), gw_sel 14 (by decide +kernel) (by decide +kernel)⟩
theorem c_Mod_108 : OKS R_Mod 108 t_Mod_isSize 1 := ⟨⟨gw_in 833 (by decide +kernel) (by decide +kernel), gw_in 7 (by decide +kernel) (by decide +kernel), by decide +kernel, by decide +kernel, by decide +kernel⟩, gw_in 831 (by decide +kernel) (by decide +kernel), gw_in 832 (by decide +kernel) (by decide +kernel)⟩
theorem c_Mod_111 : OKV R_Mod 111 t_Mod_add 7 := ⟨⟨gw_in 839 (by decide +kernel) (by decide +kernel), gw_in 7 (by decide +kernel) (by decide +kernel), by decide +kernel, by decide +kernel, by decide +kernel⟩, gw_in 836 (by decide +kernel) (by decide +kernel), gw_in 838 (by decide +kernel) (by decide +kernel), gw_sel 15 (by decide +kernel) (by decide +kernel)⟩
theorem k_Mod_115 : Cond.constant R_Mod 115 (-2147483648) ∈ gw := gw_in 852 (by decide +kernel) (by decide +kernel)
theorem c_Mod_116 : OKV R_Mod 116 t_Mod_isBox 1 := ⟨⟨gw_in 864 (by decide +kernel) (by decide +kernel), gw_in 7 (by decide +kernel) (by decide +kernel), by decide +kernel, by decide +kernel, by decide +kernel⟩, gw_in 861 (by decide +kernel) (by decide +kernel), gw_in 863 (by decide +kernel) (by decide +kernel), gw_sel 18 (by decide +kernel) (by decide +kernel)⟩
theorem c_Mod_119 : OKV R_Mod 119 t_Mod_start 1 := ⟨⟨gw_in 881 (by decide +kernel) (by decide +kernel), gw_in 7 (by decide +kernel) (by decide +kernel), by decide +kernel, by decide +kernel, by decide +kernel⟩, gw_in 878 (by decide +kernel) (by decide +kernel), gw_in 880 (by decide +kernel) (by decide +kernel), gw_sel 21 (by decide +kernel) (by decide +kernel)⟩
theorem c_Mod_123 : OKV R_Mod 123 t_Mod_move 2 := ⟨⟨gw_in 885 (by decide +kernel) (by decide +kernel), gw_in 7 (by decide +kernel) (by decide +kernel), by decide +kernel, by decide +kernel, by decide +kernel⟩, gw_in 882 (by decide +kernel) (by decide +kernel), gw_in 884 (by decide +kernel) (by decide +kernel), gw_sel 22 (by decide +kernel) (by decide +kernel)⟩
theorem c_Mod_127 : OKS R_Mod 127 t_Mod_isSizeLong 1 := ⟨⟨gw_in 867 (by decide +kernel) (by decide +kernel), gw_in 7 (by decide +kernel) (by decide +kernel), by decide +kernel, by decide +kernel, by decide +kernel⟩, gw_in 865 (by decide +kernel) (by decide +kernel), gw_in 866 (by decide +kernel) (by decide +kernel)⟩
theorem c_Mod_131 : OKV R_Mod 131 t_Mod_nested 2 := ⟨⟨gw_in 873 (by decide +kernel) (by decide +kernel), gw_in 7 (by decide +kernel) (by decide +kernel), by decide +kernel, by decide +kernel, by decide +kernel⟩, gw_in 870 (by decide +kernel) (by decide +kernel), gw_in 872 (by decide +kernel) (by decide +kernel), gw_sel 19 (by decide +kernel) (by decide +kernel)⟩
theorem c_Mod_135 : OKV R_Mod 135 t_Mod_empty 1 := ⟨⟨gw_in 877 (by decide +kernel) (by decide +kernel), gw_in 7 (by decide +kernel) (by decide +kernel), by decide +kernel, by decide +kernel, by decide +kernel⟩, gw_in 874 (by decide +kernel) (by decide +kernel), gw_in 876 (by decide +kernel) (by decide +kernel), gw_sel 20 (by decide +kernel) (by decide +kernel)⟩
theorem c_Mod_139 : OKV R_Mod 139 t_Mod_make 2 := ⟨⟨gw_in 889 (by decide +kernel) (by decide +kernel), gw_in 7 (by decide +kernel) (by decide +kernel), by decide +kernel, by decide +kernel, by decide +kernel⟩, gw_in 886 (by decide +kernel) (by decide +kernel), gw_in 888 (by decide +kernel) (by decide +kernel), gw_sel 23 (by decide +kernel) (by decide +kernel)⟩
theorem c_Mod_142 : OKV R_Mod 142 t_Mod_isFull 1 := ⟨⟨gw_in 897 (by decide +kernel) (by decide +kernel), gw_in 7 (by decide +kernel) (by decide +kernel), by decide +kernel, by decide +kernel, by decide +kernel⟩, gw_in 894 (by decide +kernel) (by decide +kernel), gw_in 896 (by decide +kernel) (by decide +kernel), gw_sel 24 (by decide +kernel) (by decide +kernel)⟩
theorem f_Mod_145 : FL R_Mod 145 9 18 (.int) false R_Mod := ⟨R_Mod, T_Mod, 34, ty_Mod, rfl, i_Mod, ok_Mod, nm_Mod, by decide, gw_in 724 (by decide +kernel) (by decide +kernel), rfl, rfl, rfl⟩
theorem k_Mod_148 : Cond.constant R_Mod 148 25400000 ∈ gw := gw_in 927 (by decide +kernel) (by decide +kernel)
theorem c_Mod_149 : OKV R_Mod 149 t_Mod_write 2 := ⟨⟨gw_in 922 (by decide +kernel) (by decide +kernel), gw_in 7 (by decide +kernel) (by decide +kernel), by decide +kernel, by decide +kernel, by decide +kernel⟩, gw_in 919 (by decide +kernel) (by decide +kernel), gw_in 921 (by decide +kernel) (by decide +kernel), gw_sel 29 (by decide +kernel) (by decide +kernel)⟩
theorem k_Mod_152 : Cond.constant R_Mod 152 473628672 ∈ gw := gw_in 928 (by decide +kernel) (by decide +kernel)
theorem c_Mod_153 : OKV R_Mod 153 t_Mod_writeNumbers 0 := ⟨⟨gw_in 926 (by decide +kernel) (by decide +kernel), gw_in 7 (by decide +kernel) (by decide +kernel), by decide +kernel, by decide +kernel, by decide +kernel⟩, gw_in 923 (by decide +kernel) (by decide +kernel), gw_in 925 (by decide +kernel) (by decide +kernel), gw_sel 30 (by decide +kernel) (by decide +kernel)⟩
theorem f_Mod_156 : FL R_Mod 156 9 33 (.boolean) false R_Mod := ⟨R_Mod, T_Mod, 34, ty_Mod, rfl, i_Mod, ok_Mod, nm_Mod, by decide, gw_in 739 (by decide +kernel) (by decide +kernel), rfl, rfl, rfl⟩
theorem f_Mod_160 : FL R_Mod 160 9 27 (.int) false R_Mod := ⟨R_Mod, T_Mod, 34, ty_Mod, rfl, i_Mod, ok_Mod, nm_Mod, by decide, gw_in 733 (by decide +kernel) (by decide +kernel), rfl, rfl, rfl⟩
theorem c_Mod_163 : OKV R_Mod 163 t_Mod_sized 1 := ⟨⟨gw_in 914 (by decide +kernel) (by decide +kernel), gw_in 7 (by decide +kernel) (by decide +kernel), by decide +kernel, by decide +kernel, by decide +kernel⟩, gw_in 911 (by decide +kernel) (by decide +kernel), gw_in 913 (by decide +kernel) (by decide +kernel), gw_sel 27 (by decide +kernel) (by decide +kernel)⟩
theorem c_Mod_167 : OKV R_Mod 167 t_Mod_enter 2 := ⟨⟨gw_in 910 (by decide +kernel) (by decide +kernel), gw_in 7 (by decide +kernel) (by decide +kernel), by decide +kernel, by decide +kernel, by decide +kernel⟩, gw_in 907 (by decide +kernel) (by decide +kernel), gw_in 909 (by decide +kernel) (by decide +kernel), gw_sel 26 (by decide +kernel) (by decide +kernel)⟩
theorem k_Mod_170 : Cond.constant R_Mod 170 32768 ∈ gw := gw_in 948 (by decide +kernel) (by decide +kernel)
theorem k_Mod_171 : Cond.constant R_Mod 171 (-8388608) ∈ gw := gw_in 949 (by decide +kernel) (by decide +kernel)
theorem k_Mod_172 : Cond.constant R_Mod 172 8388608 ∈ gw := gw_in 950 (by decide +kernel) (by decide +kernel)
theorem c_Mod_173 : OKS R_Mod 173 t_Mod_bytes 1 := ⟨⟨gw_in 947 (by decide +kernel) (by decide +kernel), gw_in 7 (by decide +kernel) (by decide +kernel), by decide +kernel, by decide +kernel, by decide +kernel⟩, gw_in 945 (by decide +kernel) (by decide +kernel), gw_in 946 (by decide +kernel) (by decide +kernel)⟩
theorem c_Mod_176 : OKV R_Mod 176 t_Mod_go 2 := ⟨⟨gw_in 944 (by decide +kernel) (by decide +kernel), gw_in 7 (by decide +kernel) (by decide +kernel), by decide +kernel, by decide +kernel, by decide +kernel⟩, gw_in 941 (by decide +kernel) (by decide +kernel), gw_in 943 (by decide +kernel) (by decide +kernel), gw_sel 34 (by decide +kernel) (by decide +kernel)⟩
theorem c_Mod_179 : OKV R_Mod 179 t_Mod_writeFont 1 := ⟨⟨gw_in 958 (by decide +kernel) (by decide +kernel), gw_in 7 (by decide +kernel) (by decide +kernel), by decide +kernel, by decide +kernel, by decide +kernel⟩, gw_in 955 (by decide +kernel) (by decide +kernel), gw_in 957 (by decide +kernel) (by decide +kernel), gw_sel 36 (by decide +kernel) (by decide +kernel)⟩
theorem f_Mod_182 : FL R_Mod 182 9 32 (.int) false R_Mod := ⟨R_Mod, T_Mod, 34, ty_Mod, rfl, i_Mod, ok_Mod, nm_Mod, by decide, gw_in 738 (by decide +kernel) (by decide +kernel), rfl, rfl, rfl⟩
theorem c_Mod_185 : OKV R_Mod 185 t_Mod_goTo 2 := ⟨⟨gw_in 940 (by decide +kernel) (by decide +kernel), gw_in 7 (by decide +kernel) (by decide +kernel), by decide +kernel, by decide +kernel, by decide +kernel⟩, gw_in 937 (by decide +kernel) (by decide +kernel), gw_in 939 (by decide +kernel) (by decide +kernel), gw_sel 33 (by decide +kernel) (by decide +kernel)⟩
theorem c_Mod_188 : OKV R_Mod 188 t_Mod_leave 0 := ⟨⟨gw_in 936 (by decide +kernel) (by decide +kernel), gw_in 7 (by decide +kernel) (by decide +kernel), by decide +kernel, by decide +kernel, by decide +kernel⟩, gw_in 933 (by decide +kernel) (by decide +kernel), gw_in 935 (by decide +kernel) (by decide +kernel), gw_sel 32 (by decide +kernel) (by decide +kernel)⟩
theorem f_Mod_191 : FL R_Mod 191 9 24 (.int) false R_Mod := ⟨R_Mod, T_Mod, 34, ty_Mod, rfl, i_Mod, ok_Mod, nm_Mod, by decide, gw_in 730 (by decide +kernel) (by decide +kernel), rfl, rfl, rfl⟩
theorem c_Mod_194 : OKV R_Mod 194 t_Mod_writeCharacter 1 := ⟨⟨gw_in 954 (by decide +kernel) (by decide +kernel), gw_in 7 (by decide +kernel) (by decide +kernel), by decide +kernel, by decide +kernel, by decide +kernel⟩, gw_in 951 (by decide +kernel) (by decide +kernel), gw_in 953 (by decide +kernel) (by decide +kernel), gw_sel 35 (by decide +kernel) (by decide +kernel)⟩
theorem c_Mod_197 : OKV R_Mod 197 t_Mod_boxOf 2 := ⟨⟨gw_in 962 (by decide +kernel) (by decide +kernel), gw_in 7 (by decide +kernel) (by decide +kernel), by decide +kernel, by decide +kernel, by decide +kernel⟩, gw_in 959 (by decide +kernel) (by decide +kernel), gw_in 961 (by decide +kernel) (by decide +kernel), gw_sel 37 (by decide +kernel) (by decide +kernel)⟩
theorem c_Mod_200 : OKV R_Mod 200 t_Mod_writeRule 3 := ⟨⟨gw_in 966 (by decide +kernel) (by decide +kernel), gw_in 7 (by decide +kernel) (by decide +kernel), by decide +kernel, by decide +kernel, by decide +kernel⟩, gw_in 963 (by decide +kernel) (by decide +kernel), gw_in 965 (by decide +kernel) (by decide +kernel), gw_sel 38 (by decide +kernel) (by decide +kernel)⟩
theorem f_Mod_204 : FL R_Mod 204 9 19 (.boolean) false R_Mod := ⟨R_Mod, T_Mod, 34, ty_Mod, rfl, i_Mod, ok_Mod, nm_Mod, by decide, gw_in 725 (by decide +kernel) (by decide +kernel), rfl, rfl, rfl⟩
theorem k_Mod_207 : Cond.constant R_Mod 207 200000 ∈ gw := gw_in 902 (by decide +kernel) (by decide +kernel)
theorem c_Mod_208 : OKV R_Mod 208 t_Mod_placeAll 2 := ⟨⟨gw_in 906 (by decide +kernel) (by decide +kernel), gw_in 7 (by decide +kernel) (by decide +kernel), by decide +kernel, by decide +kernel, by decide +kernel⟩, gw_in 903 (by decide +kernel) (by decide +kernel), gw_in 905 (by decide +kernel) (by decide +kernel), gw_sel 25 (by decide +kernel) (by decide +kernel)⟩
theorem c_Mod_211 : OKV R_Mod 211 t_Mod_writeBeginning 0 := ⟨⟨gw_in 918 (by decide +kernel) (by decide +kernel), gw_in 7 (by decide +kernel) (by decide +kernel), by decide +kernel, by decide +kernel, by decide +kernel⟩, gw_in 915 (by decide +kernel) (by decide +kernel), gw_in 917 (by decide +kernel) (by decide +kernel), gw_sel 28 (by decide +kernel) (by decide +kernel)⟩
theorem f_Mod_214 : FL R_Mod 214 9 20 (.int) false R_Mod := ⟨R_Mod, T_Mod, 34, ty_Mod, rfl, i_Mod, ok_Mod, nm_Mod, by decide, gw_in 726 (by decide +kernel) (by decide +kernel), rfl, rfl, rfl⟩
theorem c_Mod_217 : OKV R_Mod 217 t_Mod_writeAll 2 := ⟨⟨gw_in 932 (by decide +kernel) (by decide +kernel), gw_in 7 (by decide +kernel) (by decide +kernel), by decide +kernel, by decide +kernel, by decide +kernel⟩, gw_in 929 (by decide +kernel) (by decide +kernel), gw_in 931 (by decide +kernel) (by decide +kernel), gw_sel 31 (by decide +kernel) (by decide +kernel)⟩
theorem f_Mod_220 : FL R_Mod 220 9 22 (.long) false R_Mod := ⟨R_Mod, T_Mod, 34, ty_Mod, rfl, i_Mod, ok_Mod, nm_Mod, by decide, gw_in 728 (by decide +kernel) (by decide +kernel), rfl, rfl, rfl⟩
theorem f_Mod_224 : FL R_Mod 224 9 23 (.int) false R_Mod := ⟨R_Mod, T_Mod, 34, ty_Mod, rfl, i_Mod, ok_Mod, nm_Mod, by decide, gw_in 729 (by decide +kernel) (by decide +kernel), rfl, rfl, rfl⟩
theorem oi1 : Cond.instanceMethod objectInit ∈ gw := gw_in 25 (by decide +kernel) (by decide +kernel)
theorem oi2 : Cond.code objectInit ⟨#[0xb1]⟩ 1 none ∈ gw := gw_in 26 (by decide +kernel) (by decide +kernel)
theorem mxi1 : Cond.static Lib.Math.max.name ∈ gw := gw_in 344 (by decide +kernel) (by decide +kernel)
theorem mxi2 : Cond.code Lib.Math.max.name Lib.Math.max.code 2 (some .int) ∈ gw := gw_in 345 (by decide +kernel) (by decide +kernel)
theorem mxl1 : Cond.static Lib.MathLoose.max_long.x ∈ gw := gw_in 351 (by decide +kernel) (by decide +kernel)
theorem mxl2 : Cond.code Lib.MathLoose.max_long.x Lib.MathLoose.max_long.code 4 (some .long) ∈ gw := gw_in 352 (by decide +kernel) (by decide +kernel)
theorem mx0 : Cond.initialized "java/lang/Math" ∈ gw := gw_in 10 (by decide +kernel) (by decide +kernel)
theorem aw_int : Cond.arrayClass .int ∈ gw := gw_in 67 (by decide +kernel) (by decide +kernel)
theorem aw_byte : Cond.arrayClass .byte ∈ gw := gw_in 49 (by decide +kernel) (by decide +kernel)
theorem aw_boolean : Cond.arrayClass .boolean ∈ gw := gw_in 809 (by decide +kernel) (by decide +kernel)
theorem aw_long : Cond.arrayClass .long ∈ gw := gw_in 810 (by decide +kernel) (by decide +kernel)
theorem aw_Box : Cond.arrayOver (.object R_Box) ∈ nw := nw_in 28 (by decide +kernel) (by decide +kernel)
end
section
theorem d_Byt_init_0 : decode b_Byt_init 0 = .ok (.aload_n 0, 1) := by decide +kernel
theorem d_Byt_init_1 : decode b_Byt_init 1 = .ok (.invokespecial 3, 3) := by decide +kernel
theorem d_Byt_init_4 : decode b_Byt_init 4 = .ok (.aload_n 0, 1) := by decide +kernel
theorem d_Byt_init_5 : decode b_Byt_init 5 = .ok (.sipush 256, 3) := by decide +kernel
theorem d_Byt_init_8 : decode b_Byt_init 8 = .ok (.newarray .byte, 2) := by decide +kernel
theorem d_Byt_init_10 : decode b_Byt_init 10 = .ok (.putfield 9, 3) := by decide +kernel
theorem d_Byt_init_13 : decode b_Byt_init 13 = .ok (.return_, 1) := by decide +kernel
theorem d_Byt_add_0 : decode b_Byt_add 0 = .ok (.aload_n 0, 1) := by decide +kernel
theorem d_Byt_add_1 : decode b_Byt_add 1 = .ok (.getfield 9, 3) := by decide +kernel
theorem d_Byt_add_4 : decode b_Byt_add 4 = .ok (.arraylength, 1) := by decide +kernel
theorem d_Byt_add_5 : decode b_Byt_add 5 = .ok (.aload_n 0, 1) := by decide +kernel
theorem d_Byt_add_6 : decode b_Byt_add 6 = .ok (.getfield 15, 3) := by decide +kernel
theorem d_Byt_add_9 : decode b_Byt_add 9 = .ok (.isub, 1) := by decide +kernel
theorem d_Byt_add_10 : decode b_Byt_add 10 = .ok (.iload_n 2, 1) := by decide +kernel
theorem d_Byt_add_11 : decode b_Byt_add 11 = .ok (.if_icmp .ge 21, 3) := by decide +kernel
theorem d_Byt_add_14 : decode b_Byt_add 14 = .ok (.aload_n 0, 1) := by decide +kernel
theorem d_Byt_add_15 : decode b_Byt_add 15 = .ok (.aload_n 0, 1) := by decide +kernel
theorem d_Byt_add_16 : decode b_Byt_add 16 = .ok (.getfield 9, 3) := by decide +kernel
theorem d_Byt_add_19 : decode b_Byt_add 19 = .ok (.iconst 2, 1) := by decide +kernel
theorem d_Byt_add_20 : decode b_Byt_add 20 = .ok (.aload_n 0, 1) := by decide +kernel
theorem d_Byt_add_21 : decode b_Byt_add 21 = .ok (.getfield 9, 3) := by decide +kernel
theorem d_Byt_add_24 : decode b_Byt_add 24 = .ok (.arraylength, 1) := by decide +kernel
theorem d_Byt_add_25 : decode b_Byt_add 25 = .ok (.imul, 1) := by decide +kernel
theorem d_Byt_add_26 : decode b_Byt_add 26 = .ok (.invokestatic 19, 3) := by decide +kernel
theorem d_Byt_add_29 : decode b_Byt_add 29 = .ok (.putfield 9, 3) := by decide +kernel
theorem d_Byt_add_32 : decode b_Byt_add 32 = .ok (.iload_n 2, 1) := by decide +kernel
theorem d_Byt_add_33 : decode b_Byt_add 33 = .ok (.iconst 1, 1) := by decide +kernel
theorem d_Byt_add_34 : decode b_Byt_add 34 = .ok (.isub, 1) := by decide +kernel
theorem d_Byt_add_35 : decode b_Byt_add 35 = .ok (.istore_n 3, 1) := by decide +kernel
theorem d_Byt_add_36 : decode b_Byt_add 36 = .ok (.iload_n 3, 1) := by decide +kernel
theorem d_Byt_add_37 : decode b_Byt_add 37 = .ok (.ifCond .lt 35, 3) := by decide +kernel
theorem d_Byt_add_40 : decode b_Byt_add 40 = .ok (.aload_n 0, 1) := by decide +kernel
theorem d_Byt_add_41 : decode b_Byt_add 41 = .ok (.getfield 9, 3) := by decide +kernel
theorem d_Byt_add_44 : decode b_Byt_add 44 = .ok (.aload_n 0, 1) := by decide +kernel
theorem d_Byt_add_45 : decode b_Byt_add 45 = .ok (.getfield 15, 3) := by decide +kernel
theorem d_Byt_add_48 : decode b_Byt_add 48 = .ok (.iload_n 1, 1) := by decide +kernel
theorem d_Byt_add_49 : decode b_Byt_add 49 = .ok (.bipush 8, 2) := by decide +kernel
theorem d_Byt_add_51 : decode b_Byt_add 51 = .ok (.iload_n 3, 1) := by decide +kernel
theorem d_Byt_add_52 : decode b_Byt_add 52 = .ok (.imul, 1) := by decide +kernel
theorem d_Byt_add_53 : decode b_Byt_add 53 = .ok (.ishr, 1) := by decide +kernel
theorem d_Byt_add_54 : decode b_Byt_add 54 = .ok (.i2b, 1) := by decide +kernel
theorem d_Byt_add_55 : decode b_Byt_add 55 = .ok (.bastore, 1) := by decide +kernel
theorem d_Byt_add_56 : decode b_Byt_add 56 = .ok (.aload_n 0, 1) := by decide +kernel
theorem d_Byt_add_57 : decode b_Byt_add 57 = .ok (.dup, 1) := by decide +kernel
theorem d_Byt_add_58 : decode b_Byt_add 58 = .ok (.getfield 15, 3) := by decide +kernel
theorem d_Byt_add_61 : decode b_Byt_add 61 = .ok (.iconst 1, 1) := by decide +kernel
theorem d_Byt_add_62 : decode b_Byt_add 62 = .ok (.iadd, 1) := by decide +kernel
theorem d_Byt_add_63 : decode b_Byt_add 63 = .ok (.putfield 15, 3) := by decide +kernel
theorem d_Byt_add_66 : decode b_Byt_add 66 = .ok (.iinc 3 (-1), 3) := by decide +kernel
theorem d_Byt_add_69 : decode b_Byt_add 69 = .ok (.goto (-33), 3) := by decide +kernel
theorem d_Byt_add_72 : decode b_Byt_add 72 = .ok (.return_, 1) := by decide +kernel
theorem d_Byt_get_0 : decode b_Byt_get 0 = .ok (.iload_n 1, 1) := by decide +kernel
theorem d_Byt_get_1 : decode b_Byt_get 1 = .ok (.ifCond .lt 24, 3) := by decide +kernel
theorem d_Byt_get_4 : decode b_Byt_get 4 = .ok (.iload_n 1, 1) := by decide +kernel
theorem d_Byt_get_5 : decode b_Byt_get 5 = .ok (.aload_n 0, 1) := by decide +kernel
theorem d_Byt_get_6 : decode b_Byt_get 6 = .ok (.getfield 15, 3) := by decide +kernel
theorem d_Byt_get_9 : decode b_Byt_get 9 = .ok (.if_icmp .ge 16, 3) := by decide +kernel
theorem d_Byt_get_12 : decode b_Byt_get 12 = .ok (.aload_n 0, 1) := by decide +kernel
theorem d_Byt_get_13 : decode b_Byt_get 13 = .ok (.getfield 9, 3) := by decide +kernel
theorem d_Byt_get_16 : decode b_Byt_get 16 = .ok (.iload_n 1, 1) := by decide +kernel
theorem d_Byt_get_17 : decode b_Byt_get 17 = .ok (.baload, 1) := by decide +kernel
theorem d_Byt_get_18 : decode b_Byt_get 18 = .ok (.sipush 255, 3) := by decide +kernel
theorem d_Byt_get_21 : decode b_Byt_get 21 = .ok (.iand, 1) := by decide +kernel
theorem d_Byt_get_22 : decode b_Byt_get 22 = .ok (.goto 4, 3) := by decide +kernel
theorem d_Byt_get_25 : decode b_Byt_get 25 = .ok (.iconst (-1), 1) := by decide +kernel
theorem d_Byt_get_26 : decode b_Byt_get 26 = .ok (.ireturn, 1) := by decide +kernel
theorem d_Byt_cutTo_0 : decode b_Byt_cutTo 0 = .ok (.iload_n 1, 1) := by decide +kernel
theorem d_Byt_cutTo_1 : decode b_Byt_cutTo 1 = .ok (.ifCond .lt 16, 3) := by decide +kernel
theorem d_Byt_cutTo_4 : decode b_Byt_cutTo 4 = .ok (.iload_n 1, 1) := by decide +kernel
theorem d_Byt_cutTo_5 : decode b_Byt_cutTo 5 = .ok (.aload_n 0, 1) := by decide +kernel
theorem d_Byt_cutTo_6 : decode b_Byt_cutTo 6 = .ok (.getfield 15, 3) := by decide +kernel
theorem d_Byt_cutTo_9 : decode b_Byt_cutTo 9 = .ok (.if_icmp .ge 8, 3) := by decide +kernel
theorem d_Byt_cutTo_12 : decode b_Byt_cutTo 12 = .ok (.aload_n 0, 1) := by decide +kernel
theorem d_Byt_cutTo_13 : decode b_Byt_cutTo 13 = .ok (.iload_n 1, 1) := by decide +kernel
theorem d_Byt_cutTo_14 : decode b_Byt_cutTo 14 = .ok (.putfield 15, 3) := by decide +kernel
theorem d_Byt_cutTo_17 : decode b_Byt_cutTo 17 = .ok (.return_, 1) := by decide +kernel
theorem d_Fon_init_0 : decode b_Fon_init 0 = .ok (.aload_n 0, 1) := by decide +kernel
theorem d_Fon_init_1 : decode b_Fon_init 1 = .ok (.invokespecial 3, 3) := by decide +kernel
theorem d_Fon_init_4 : decode b_Fon_init 4 = .ok (.aload_n 0, 1) := by decide +kernel
theorem d_Fon_init_5 : decode b_Fon_init 5 = .ok (.bipush 32, 2) := by decide +kernel
theorem d_Fon_init_7 : decode b_Fon_init 7 = .ok (.newarray .int, 2) := by decide +kernel
theorem d_Fon_init_9 : decode b_Fon_init 9 = .ok (.putfield 9, 3) := by decide +kernel
theorem d_Fon_init_12 : decode b_Fon_init 12 = .ok (.aload_n 0, 1) := by decide +kernel
theorem d_Fon_init_13 : decode b_Fon_init 13 = .ok (.bipush 32, 2) := by decide +kernel
theorem d_Fon_init_15 : decode b_Fon_init 15 = .ok (.newarray .int, 2) := by decide +kernel
theorem d_Fon_init_17 : decode b_Fon_init 17 = .ok (.putfield 15, 3) := by decide +kernel
theorem d_Fon_init_20 : decode b_Fon_init 20 = .ok (.return_, 1) := by decide +kernel
theorem d_Fon_keep_0 : decode b_Fon_keep 0 = .ok (.iload_n 1, 1) := by decide +kernel
theorem d_Fon_keep_1 : decode b_Fon_keep 1 = .ok (.invokestatic 18, 3) := by decide +kernel
theorem d_Fon_keep_4 : decode b_Fon_keep 4 = .ok (.ifCond .eq 17, 3) := by decide +kernel
theorem d_Fon_keep_7 : decode b_Fon_keep 7 = .ok (.aload_n 0, 1) := by decide +kernel
theorem d_Fon_keep_8 : decode b_Fon_keep 8 = .ok (.getfield 9, 3) := by decide +kernel
theorem d_Fon_keep_11 : decode b_Fon_keep 11 = .ok (.iload_n 1, 1) := by decide +kernel
theorem d_Fon_keep_12 : decode b_Fon_keep 12 = .ok (.iload_n 2, 1) := by decide +kernel
theorem d_Fon_keep_13 : decode b_Fon_keep 13 = .ok (.iastore, 1) := by decide +kernel
theorem d_Fon_keep_14 : decode b_Fon_keep 14 = .ok (.aload_n 0, 1) := by decide +kernel
theorem d_Fon_keep_15 : decode b_Fon_keep 15 = .ok (.getfield 15, 3) := by decide +kernel
theorem d_Fon_keep_18 : decode b_Fon_keep 18 = .ok (.iload_n 1, 1) := by decide +kernel
theorem d_Fon_keep_19 : decode b_Fon_keep 19 = .ok (.iload_n 3, 1) := by decide +kernel
theorem d_Fon_keep_20 : decode b_Fon_keep 20 = .ok (.iastore, 1) := by decide +kernel
theorem d_Fon_keep_21 : decode b_Fon_keep 21 = .ok (.return_, 1) := by decide +kernel
theorem d_Fon_isUsed_0 : decode b_Fon_isUsed 0 = .ok (.iload_n 1, 1) := by decide +kernel
theorem d_Fon_isUsed_1 : decode b_Fon_isUsed 1 = .ok (.invokestatic 18, 3) := by decide +kernel
theorem d_Fon_isUsed_4 : decode b_Fon_isUsed 4 = .ok (.ifCond .eq 18, 3) := by decide +kernel
theorem d_Fon_isUsed_7 : decode b_Fon_isUsed 7 = .ok (.aload_n 0, 1) := by decide +kernel
theorem d_Fon_isUsed_8 : decode b_Fon_isUsed 8 = .ok (.getfield 22, 3) := by decide +kernel
theorem d_Fon_isUsed_11 : decode b_Fon_isUsed 11 = .ok (.iload_n 1, 1) := by decide +kernel
theorem d_Fon_isUsed_12 : decode b_Fon_isUsed 12 = .ok (.ishr, 1) := by decide +kernel
theorem d_Fon_isUsed_13 : decode b_Fon_isUsed 13 = .ok (.iconst 1, 1) := by decide +kernel
theorem d_Fon_isUsed_14 : decode b_Fon_isUsed 14 = .ok (.iand, 1) := by decide +kernel
theorem d_Fon_isUsed_15 : decode b_Fon_isUsed 15 = .ok (.ifCond .eq 7, 3) := by decide +kernel
theorem d_Fon_isUsed_18 : decode b_Fon_isUsed 18 = .ok (.iconst 1, 1) := by decide +kernel
theorem d_Fon_isUsed_19 : decode b_Fon_isUsed 19 = .ok (.goto 4, 3) := by decide +kernel
theorem d_Fon_isUsed_22 : decode b_Fon_isUsed 22 = .ok (.iconst 0, 1) := by decide +kernel
theorem d_Fon_isUsed_23 : decode b_Fon_isUsed 23 = .ok (.ireturn, 1) := by decide +kernel
theorem d_Fon_write_0 : decode b_Fon_write 0 = .ok (.iload_n 1, 1) := by decide +kernel
theorem d_Fon_write_1 : decode b_Fon_write 1 = .ok (.invokestatic 18, 3) := by decide +kernel
theorem d_Fon_write_4 : decode b_Fon_write 4 = .ok (.ifCond .ne 4, 3) := by decide +kernel
theorem d_Fon_write_7 : decode b_Fon_write 7 = .ok (.return_, 1) := by decide +kernel
theorem d_Fon_write_8 : decode b_Fon_write 8 = .ok (.aload_n 0, 1) := by decide +kernel
theorem d_Fon_write_9 : decode b_Fon_write 9 = .ok (.dup, 1) := by decide +kernel
theorem d_Fon_write_10 : decode b_Fon_write 10 = .ok (.getfield 22, 3) := by decide +kernel
theorem d_Fon_write_13 : decode b_Fon_write 13 = .ok (.iconst 1, 1) := by decide +kernel
theorem d_Fon_write_14 : decode b_Fon_write 14 = .ok (.iload_n 1, 1) := by decide +kernel
theorem d_Fon_write_15 : decode b_Fon_write 15 = .ok (.ishl, 1) := by decide +kernel
theorem d_Fon_write_16 : decode b_Fon_write 16 = .ok (.ior, 1) := by decide +kernel
theorem d_Fon_write_17 : decode b_Fon_write 17 = .ok (.putfield 22, 3) := by decide +kernel
theorem d_Fon_write_20 : decode b_Fon_write 20 = .ok (.aload_n 2, 1) := by decide +kernel
theorem d_Fon_write_21 : decode b_Fon_write 21 = .ok (.sipush 243, 3) := by decide +kernel
theorem d_Fon_write_24 : decode b_Fon_write 24 = .ok (.iconst 1, 1) := by decide +kernel
theorem d_Fon_write_25 : decode b_Fon_write 25 = .ok (.invokevirtual 26, 3) := by decide +kernel
theorem d_Fon_write_28 : decode b_Fon_write 28 = .ok (.aload_n 2, 1) := by decide +kernel
theorem d_Fon_write_29 : decode b_Fon_write 29 = .ok (.iload_n 1, 1) := by decide +kernel
theorem d_Fon_write_30 : decode b_Fon_write 30 = .ok (.iconst 1, 1) := by decide +kernel
theorem d_Fon_write_31 : decode b_Fon_write 31 = .ok (.invokevirtual 26, 3) := by decide +kernel
theorem d_Fon_write_34 : decode b_Fon_write 34 = .ok (.aload_n 2, 1) := by decide +kernel
theorem d_Fon_write_35 : decode b_Fon_write 35 = .ok (.iconst 0, 1) := by decide +kernel
theorem d_Fon_write_36 : decode b_Fon_write 36 = .ok (.iconst 4, 1) := by decide +kernel
theorem d_Fon_write_37 : decode b_Fon_write 37 = .ok (.invokevirtual 26, 3) := by decide +kernel
theorem d_Fon_write_40 : decode b_Fon_write 40 = .ok (.aload_n 2, 1) := by decide +kernel
theorem d_Fon_write_41 : decode b_Fon_write 41 = .ok (.aload_n 0, 1) := by decide +kernel
theorem d_Fon_write_42 : decode b_Fon_write 42 = .ok (.getfield 9, 3) := by decide +kernel
theorem d_Fon_write_45 : decode b_Fon_write 45 = .ok (.iload_n 1, 1) := by decide +kernel
theorem d_Fon_write_46 : decode b_Fon_write 46 = .ok (.iaload, 1) := by decide +kernel
theorem d_Fon_write_47 : decode b_Fon_write 47 = .ok (.iconst 4, 1) := by decide +kernel
theorem d_Fon_write_48 : decode b_Fon_write 48 = .ok (.invokevirtual 26, 3) := by decide +kernel
theorem d_Fon_write_51 : decode b_Fon_write 51 = .ok (.aload_n 2, 1) := by decide +kernel
theorem d_Fon_write_52 : decode b_Fon_write 52 = .ok (.aload_n 0, 1) := by decide +kernel
theorem d_Fon_write_53 : decode b_Fon_write 53 = .ok (.getfield 15, 3) := by decide +kernel
theorem d_Fon_write_56 : decode b_Fon_write 56 = .ok (.iload_n 1, 1) := by decide +kernel
theorem d_Fon_write_57 : decode b_Fon_write 57 = .ok (.iaload, 1) := by decide +kernel
theorem d_Fon_write_58 : decode b_Fon_write 58 = .ok (.iconst 4, 1) := by decide +kernel
theorem d_Fon_write_59 : decode b_Fon_write 59 = .ok (.invokevirtual 26, 3) := by decide +kernel
theorem d_Fon_write_62 : decode b_Fon_write 62 = .ok (.aload_n 2, 1) := by decide +kernel
theorem d_Fon_write_63 : decode b_Fon_write 63 = .ok (.iconst 0, 1) := by decide +kernel
theorem d_Fon_write_64 : decode b_Fon_write 64 = .ok (.iconst 1, 1) := by decide +kernel
theorem d_Fon_write_65 : decode b_Fon_write 65 = .ok (.invokevirtual 26, 3) := by decide +kernel
theorem d_Fon_write_68 : decode b_Fon_write 68 = .ok (.aload_n 2, 1) := by decide +kernel
theorem d_Fon_write_69 : decode b_Fon_write 69 = .ok (.iconst 1, 1) := by decide +kernel
theorem d_Fon_write_70 : decode b_Fon_write 70 = .ok (.iconst 1, 1) := by decide +kernel
theorem d_Fon_write_71 : decode b_Fon_write 71 = .ok (.invokevirtual 26, 3) := by decide +kernel
theorem d_Fon_write_74 : decode b_Fon_write 74 = .ok (.aload_n 2, 1) := by decide +kernel
theorem d_Fon_write_75 : decode b_Fon_write 75 = .ok (.bipush 65, 2) := by decide +kernel
theorem d_Fon_write_77 : decode b_Fon_write 77 = .ok (.iload_n 1, 1) := by decide +kernel
theorem d_Fon_write_78 : decode b_Fon_write 78 = .ok (.bipush 26, 2) := by decide +kernel
theorem d_Fon_write_80 : decode b_Fon_write 80 = .ok (.irem, 1) := by decide +kernel
theorem d_Fon_write_81 : decode b_Fon_write 81 = .ok (.iadd, 1) := by decide +kernel
theorem d_Fon_write_82 : decode b_Fon_write 82 = .ok (.iconst 1, 1) := by decide +kernel
theorem d_Fon_write_83 : decode b_Fon_write 83 = .ok (.invokevirtual 26, 3) := by decide +kernel
theorem d_Fon_write_86 : decode b_Fon_write 86 = .ok (.return_, 1) := by decide +kernel
theorem d_Trk_init_0 : decode b_Trk_init 0 = .ok (.aload_n 0, 1) := by decide +kernel
theorem d_Trk_init_1 : decode b_Trk_init 1 = .ok (.invokespecial 3, 3) := by decide +kernel
theorem d_Trk_init_4 : decode b_Trk_init 4 = .ok (.aload_n 0, 1) := by decide +kernel
theorem d_Trk_init_5 : decode b_Trk_init 5 = .ok (.iload_n 1, 1) := by decide +kernel
theorem d_Trk_init_6 : decode b_Trk_init 6 = .ok (.putfield 9, 3) := by decide +kernel
theorem d_Trk_init_9 : decode b_Trk_init 9 = .ok (.return_, 1) := by decide +kernel
theorem d_Trk_restart_0 : decode b_Trk_restart 0 = .ok (.aload_n 0, 1) := by decide +kernel
theorem d_Trk_restart_1 : decode b_Trk_restart 1 = .ok (.iconst 0, 1) := by decide +kernel
theorem d_Trk_restart_2 : decode b_Trk_restart 2 = .ok (.putfield 15, 3) := by decide +kernel
theorem d_Trk_restart_5 : decode b_Trk_restart 5 = .ok (.aload_n 0, 1) := by decide +kernel
theorem d_Trk_restart_6 : decode b_Trk_restart 6 = .ok (.iconst 0, 1) := by decide +kernel
theorem d_Trk_restart_7 : decode b_Trk_restart 7 = .ok (.putfield 18, 3) := by decide +kernel
theorem d_Trk_restart_10 : decode b_Trk_restart 10 = .ok (.aload_n 0, 1) := by decide +kernel
theorem d_Trk_restart_11 : decode b_Trk_restart 11 = .ok (.iconst 0, 1) := by decide +kernel
theorem d_Trk_restart_12 : decode b_Trk_restart 12 = .ok (.putfield 21, 3) := by decide +kernel
theorem d_Trk_restart_15 : decode b_Trk_restart 15 = .ok (.aload_n 0, 1) := by decide +kernel
theorem d_Trk_restart_16 : decode b_Trk_restart 16 = .ok (.iconst 0, 1) := by decide +kernel
theorem d_Trk_restart_17 : decode b_Trk_restart 17 = .ok (.putfield 24, 3) := by decide +kernel
theorem d_Trk_restart_20 : decode b_Trk_restart 20 = .ok (.return_, 1) := by decide +kernel
theorem d_Trk_become_0 : decode b_Trk_become 0 = .ok (.aload_n 0, 1) := by decide +kernel
theorem d_Trk_become_1 : decode b_Trk_become 1 = .ok (.aload_n 1, 1) := by decide +kernel
theorem d_Trk_become_2 : decode b_Trk_become 2 = .ok (.getfield 15, 3) := by decide +kernel
theorem d_Trk_become_5 : decode b_Trk_become 5 = .ok (.putfield 15, 3) := by decide +kernel
theorem d_Trk_become_8 : decode b_Trk_become 8 = .ok (.aload_n 0, 1) := by decide +kernel
theorem d_Trk_become_9 : decode b_Trk_become 9 = .ok (.aload_n 1, 1) := by decide +kernel
theorem d_Trk_become_10 : decode b_Trk_become 10 = .ok (.getfield 18, 3) := by decide +kernel
theorem d_Trk_become_13 : decode b_Trk_become 13 = .ok (.putfield 18, 3) := by decide +kernel
theorem d_Trk_become_16 : decode b_Trk_become 16 = .ok (.aload_n 0, 1) := by decide +kernel
theorem d_Trk_become_17 : decode b_Trk_become 17 = .ok (.aload_n 1, 1) := by decide +kernel
theorem d_Trk_become_18 : decode b_Trk_become 18 = .ok (.getfield 21, 3) := by decide +kernel
theorem d_Trk_become_21 : decode b_Trk_become 21 = .ok (.putfield 21, 3) := by decide +kernel
theorem d_Trk_become_24 : decode b_Trk_become 24 = .ok (.aload_n 0, 1) := by decide +kernel
theorem d_Trk_become_25 : decode b_Trk_become 25 = .ok (.aload_n 1, 1) := by decide +kernel
theorem d_Trk_become_26 : decode b_Trk_become 26 = .ok (.getfield 24, 3) := by decide +kernel
theorem d_Trk_become_29 : decode b_Trk_become 29 = .ok (.putfield 24, 3) := by decide +kernel
theorem d_Trk_become_32 : decode b_Trk_become 32 = .ok (.return_, 1) := by decide +kernel
theorem d_Trk_goTo_0 : decode b_Trk_goTo 0 = .ok (.iload_n 1, 1) := by decide +kernel
theorem d_Trk_goTo_1 : decode b_Trk_goTo 1 = .ok (.i2l, 1) := by decide +kernel
theorem d_Trk_goTo_2 : decode b_Trk_goTo 2 = .ok (.aload_n 0, 1) := by decide +kernel
theorem d_Trk_goTo_3 : decode b_Trk_goTo 3 = .ok (.getfield 15, 3) := by decide +kernel
theorem d_Trk_goTo_6 : decode b_Trk_goTo 6 = .ok (.i2l, 1) := by decide +kernel
theorem d_Trk_goTo_7 : decode b_Trk_goTo 7 = .ok (.lsub, 1) := by decide +kernel
theorem d_Trk_goTo_8 : decode b_Trk_goTo 8 = .ok (.lstore_n 3, 1) := by decide +kernel
theorem d_Trk_goTo_9 : decode b_Trk_goTo 9 = .ok (.lload_n 3, 1) := by decide +kernel
theorem d_Trk_goTo_10 : decode b_Trk_goTo 10 = .ok (.lconst 0, 1) := by decide +kernel
theorem d_Trk_goTo_11 : decode b_Trk_goTo 11 = .ok (.lcmp, 1) := by decide +kernel
theorem d_Trk_goTo_12 : decode b_Trk_goTo 12 = .ok (.ifCond .ne 5, 3) := by decide +kernel
theorem d_Trk_goTo_15 : decode b_Trk_goTo 15 = .ok (.iconst 1, 1) := by decide +kernel
theorem d_Trk_goTo_16 : decode b_Trk_goTo 16 = .ok (.ireturn, 1) := by decide +kernel
theorem d_Trk_goTo_17 : decode b_Trk_goTo 17 = .ok (.lload_n 3, 1) := by decide +kernel
theorem d_Trk_goTo_18 : decode b_Trk_goTo 18 = .ok (.invokestatic 28, 3) := by decide +kernel
theorem d_Trk_goTo_21 : decode b_Trk_goTo 21 = .ok (.ifCond .ne 5, 3) := by decide +kernel
theorem d_Trk_goTo_24 : decode b_Trk_goTo 24 = .ok (.iconst 0, 1) := by decide +kernel
theorem d_Trk_goTo_25 : decode b_Trk_goTo 25 = .ok (.ireturn, 1) := by decide +kernel
theorem d_Trk_goTo_26 : decode b_Trk_goTo 26 = .ok (.lload_n 3, 1) := by decide +kernel
theorem d_Trk_goTo_27 : decode b_Trk_goTo 27 = .ok (.aload_n 0, 1) := by decide +kernel
theorem d_Trk_goTo_28 : decode b_Trk_goTo 28 = .ok (.getfield 21, 3) := by decide +kernel
theorem d_Trk_goTo_31 : decode b_Trk_goTo 31 = .ok (.i2l, 1) := by decide +kernel
theorem d_Trk_goTo_32 : decode b_Trk_goTo 32 = .ok (.lcmp, 1) := by decide +kernel
theorem d_Trk_goTo_33 : decode b_Trk_goTo 33 = .ok (.ifCond .eq 20, 3) := by decide +kernel
theorem d_Trk_goTo_36 : decode b_Trk_goTo 36 = .ok (.lload_n 3, 1) := by decide +kernel
theorem d_Trk_goTo_37 : decode b_Trk_goTo 37 = .ok (.aload_n 0, 1) := by decide +kernel
theorem d_Trk_goTo_38 : decode b_Trk_goTo 38 = .ok (.getfield 18, 3) := by decide +kernel
theorem d_Trk_goTo_41 : decode b_Trk_goTo 41 = .ok (.i2l, 1) := by decide +kernel
theorem d_Trk_goTo_42 : decode b_Trk_goTo 42 = .ok (.lcmp, 1) := by decide +kernel
theorem d_Trk_goTo_43 : decode b_Trk_goTo 43 = .ok (.ifCond .eq 14, 3) := by decide +kernel
theorem d_Trk_goTo_46 : decode b_Trk_goTo 46 = .ok (.aload_n 0, 1) := by decide +kernel
theorem d_Trk_goTo_47 : decode b_Trk_goTo 47 = .ok (.getfield 24, 3) := by decide +kernel
theorem d_Trk_goTo_50 : decode b_Trk_goTo 50 = .ok (.ifCond .eq 7, 3) := by decide +kernel
theorem d_Trk_goTo_53 : decode b_Trk_goTo 53 = .ok (.iconst 1, 1) := by decide +kernel
theorem d_Trk_goTo_54 : decode b_Trk_goTo 54 = .ok (.goto 4, 3) := by decide +kernel
theorem d_Trk_goTo_57 : decode b_Trk_goTo 57 = .ok (.iconst 0, 1) := by decide +kernel
theorem d_Trk_goTo_58 : decode b_Trk_goTo 58 = .ok (.istore 5, 2) := by decide +kernel
theorem d_Trk_goTo_60 : decode b_Trk_goTo 60 = .ok (.iload 5, 2) := by decide +kernel
theorem d_Trk_goTo_62 : decode b_Trk_goTo 62 = .ok (.ifCond .eq 10, 3) := by decide +kernel
theorem d_Trk_goTo_65 : decode b_Trk_goTo 65 = .ok (.aload_n 0, 1) := by decide +kernel
theorem d_Trk_goTo_66 : decode b_Trk_goTo 66 = .ok (.getfield 21, 3) := by decide +kernel
theorem d_Trk_goTo_69 : decode b_Trk_goTo 69 = .ok (.goto 7, 3) := by decide +kernel
theorem d_Trk_goTo_72 : decode b_Trk_goTo 72 = .ok (.aload_n 0, 1) := by decide +kernel
theorem d_Trk_goTo_73 : decode b_Trk_goTo 73 = .ok (.getfield 18, 3) := by decide +kernel
theorem d_Trk_goTo_76 : decode b_Trk_goTo 76 = .ok (.istore 6, 2) := by decide +kernel
theorem d_Trk_goTo_78 : decode b_Trk_goTo 78 = .ok (.lload_n 3, 1) := by decide +kernel
theorem d_Trk_goTo_79 : decode b_Trk_goTo 79 = .ok (.iload 6, 2) := by decide +kernel
theorem d_Trk_goTo_81 : decode b_Trk_goTo 81 = .ok (.i2l, 1) := by decide +kernel
theorem d_Trk_goTo_82 : decode b_Trk_goTo 82 = .ok (.lcmp, 1) := by decide +kernel
theorem d_Trk_goTo_83 : decode b_Trk_goTo 83 = .ok (.ifCond .ne 7, 3) := by decide +kernel
theorem d_Trk_goTo_86 : decode b_Trk_goTo 86 = .ok (.iconst 0, 1) := by decide +kernel
theorem d_Trk_goTo_87 : decode b_Trk_goTo 87 = .ok (.goto 7, 3) := by decide +kernel
theorem d_Trk_goTo_90 : decode b_Trk_goTo 90 = .ok (.lload_n 3, 1) := by decide +kernel
theorem d_Trk_goTo_91 : decode b_Trk_goTo 91 = .ok (.invokestatic 32, 3) := by decide +kernel
theorem d_Trk_goTo_94 : decode b_Trk_goTo 94 = .ok (.istore 7, 2) := by decide +kernel
theorem d_Trk_goTo_96 : decode b_Trk_goTo 96 = .ok (.aload_n 2, 1) := by decide +kernel
theorem d_Trk_goTo_97 : decode b_Trk_goTo 97 = .ok (.iload 5, 2) := by decide +kernel
theorem d_Trk_goTo_99 : decode b_Trk_goTo 99 = .ok (.ifCond .eq 12, 3) := by decide +kernel
theorem d_Trk_goTo_102 : decode b_Trk_goTo 102 = .ok (.aload_n 0, 1) := by decide +kernel
theorem d_Trk_goTo_103 : decode b_Trk_goTo 103 = .ok (.getfield 9, 3) := by decide +kernel
theorem d_Trk_goTo_106 : decode b_Trk_goTo 106 = .ok (.iconst 5, 1) := by decide +kernel
theorem d_Trk_goTo_107 : decode b_Trk_goTo 107 = .ok (.iadd, 1) := by decide +kernel
theorem d_Trk_goTo_108 : decode b_Trk_goTo 108 = .ok (.goto 7, 3) := by decide +kernel
theorem d_Trk_goTo_111 : decode b_Trk_goTo 111 = .ok (.aload_n 0, 1) := by decide +kernel
theorem d_Trk_goTo_112 : decode b_Trk_goTo 112 = .ok (.getfield 9, 3) := by decide +kernel
theorem d_Trk_goTo_115 : decode b_Trk_goTo 115 = .ok (.iload 7, 2) := by decide +kernel
theorem d_Trk_goTo_117 : decode b_Trk_goTo 117 = .ok (.iadd, 1) := by decide +kernel
theorem d_Trk_goTo_118 : decode b_Trk_goTo 118 = .ok (.iconst 1, 1) := by decide +kernel
theorem d_Trk_goTo_119 : decode b_Trk_goTo 119 = .ok (.invokevirtual 36, 3) := by decide +kernel
theorem d_Trk_goTo_122 : decode b_Trk_goTo 122 = .ok (.aload_n 2, 1) := by decide +kernel
theorem d_Trk_goTo_123 : decode b_Trk_goTo 123 = .ok (.lload_n 3, 1) := by decide +kernel
theorem d_Trk_goTo_124 : decode b_Trk_goTo 124 = .ok (.l2i, 1) := by decide +kernel
theorem d_Trk_goTo_125 : decode b_Trk_goTo 125 = .ok (.iload 7, 2) := by decide +kernel
theorem d_Trk_goTo_127 : decode b_Trk_goTo 127 = .ok (.invokevirtual 36, 3) := by decide +kernel
theorem d_Trk_goTo_130 : decode b_Trk_goTo 130 = .ok (.iload 5, 2) := by decide +kernel
theorem d_Trk_goTo_132 : decode b_Trk_goTo 132 = .ok (.ifCond .eq 12, 3) := by decide +kernel
theorem d_Trk_goTo_135 : decode b_Trk_goTo 135 = .ok (.aload_n 0, 1) := by decide +kernel
theorem d_Trk_goTo_136 : decode b_Trk_goTo 136 = .ok (.lload_n 3, 1) := by decide +kernel
theorem d_Trk_goTo_137 : decode b_Trk_goTo 137 = .ok (.l2i, 1) := by decide +kernel
theorem d_Trk_goTo_138 : decode b_Trk_goTo 138 = .ok (.putfield 21, 3) := by decide +kernel
theorem d_Trk_goTo_141 : decode b_Trk_goTo 141 = .ok (.goto 9, 3) := by decide +kernel
theorem d_Trk_goTo_144 : decode b_Trk_goTo 144 = .ok (.aload_n 0, 1) := by decide +kernel
theorem d_Trk_goTo_145 : decode b_Trk_goTo 145 = .ok (.lload_n 3, 1) := by decide +kernel
theorem d_Trk_goTo_146 : decode b_Trk_goTo 146 = .ok (.l2i, 1) := by decide +kernel
theorem d_Trk_goTo_147 : decode b_Trk_goTo 147 = .ok (.putfield 18, 3) := by decide +kernel
theorem d_Trk_goTo_150 : decode b_Trk_goTo 150 = .ok (.aload_n 0, 1) := by decide +kernel
theorem d_Trk_goTo_151 : decode b_Trk_goTo 151 = .ok (.iload 5, 2) := by decide +kernel
theorem d_Trk_goTo_153 : decode b_Trk_goTo 153 = .ok (.ifCond .ne 7, 3) := by decide +kernel
theorem d_Trk_goTo_156 : decode b_Trk_goTo 156 = .ok (.iconst 1, 1) := by decide +kernel
theorem d_Trk_goTo_157 : decode b_Trk_goTo 157 = .ok (.goto 4, 3) := by decide +kernel
theorem d_Trk_goTo_160 : decode b_Trk_goTo 160 = .ok (.iconst 0, 1) := by decide +kernel
theorem d_Trk_goTo_161 : decode b_Trk_goTo 161 = .ok (.putfield 24, 3) := by decide +kernel
theorem d_Trk_goTo_164 : decode b_Trk_goTo 164 = .ok (.aload_n 0, 1) := by decide +kernel
theorem d_Trk_goTo_165 : decode b_Trk_goTo 165 = .ok (.iload_n 1, 1) := by decide +kernel
theorem d_Trk_goTo_166 : decode b_Trk_goTo 166 = .ok (.putfield 15, 3) := by decide +kernel
theorem d_Trk_goTo_169 : decode b_Trk_goTo 169 = .ok (.iconst 1, 1) := by decide +kernel
theorem d_Trk_goTo_170 : decode b_Trk_goTo 170 = .ok (.ireturn, 1) := by decide +kernel
theorem d_Trk_fewestBytes_0 : decode b_Trk_fewestBytes 0 = .ok (.lload_n 0, 1) := by decide +kernel
theorem d_Trk_fewestBytes_1 : decode b_Trk_fewestBytes 1 = .ok (.ldc2_w 42, 3) := by decide +kernel
theorem d_Trk_fewestBytes_4 : decode b_Trk_fewestBytes 4 = .ok (.lcmp, 1) := by decide +kernel
theorem d_Trk_fewestBytes_5 : decode b_Trk_fewestBytes 5 = .ok (.ifCond .lt 13, 3) := by decide +kernel
theorem d_Trk_fewestBytes_8 : decode b_Trk_fewestBytes 8 = .ok (.lload_n 0, 1) := by decide +kernel
theorem d_Trk_fewestBytes_9 : decode b_Trk_fewestBytes 9 = .ok (.ldc2_w 44, 3) := by decide +kernel
theorem d_Trk_fewestBytes_12 : decode b_Trk_fewestBytes 12 = .ok (.lcmp, 1) := by decide +kernel
theorem d_Trk_fewestBytes_13 : decode b_Trk_fewestBytes 13 = .ok (.ifCond .ge 5, 3) := by decide +kernel
theorem d_Trk_fewestBytes_16 : decode b_Trk_fewestBytes 16 = .ok (.iconst 1, 1) := by decide +kernel
theorem d_Trk_fewestBytes_17 : decode b_Trk_fewestBytes 17 = .ok (.ireturn, 1) := by decide +kernel
theorem d_Trk_fewestBytes_18 : decode b_Trk_fewestBytes 18 = .ok (.lload_n 0, 1) := by decide +kernel
theorem d_Trk_fewestBytes_19 : decode b_Trk_fewestBytes 19 = .ok (.ldc2_w 46, 3) := by decide +kernel
theorem d_Trk_fewestBytes_22 : decode b_Trk_fewestBytes 22 = .ok (.lcmp, 1) := by decide +kernel
theorem d_Trk_fewestBytes_23 : decode b_Trk_fewestBytes 23 = .ok (.ifCond .lt 13, 3) := by decide +kernel
theorem d_Trk_fewestBytes_26 : decode b_Trk_fewestBytes 26 = .ok (.lload_n 0, 1) := by decide +kernel
theorem d_Trk_fewestBytes_27 : decode b_Trk_fewestBytes 27 = .ok (.ldc2_w 48, 3) := by decide +kernel
theorem d_Trk_fewestBytes_30 : decode b_Trk_fewestBytes 30 = .ok (.lcmp, 1) := by decide +kernel
theorem d_Trk_fewestBytes_31 : decode b_Trk_fewestBytes 31 = .ok (.ifCond .ge 5, 3) := by decide +kernel
theorem d_Trk_fewestBytes_34 : decode b_Trk_fewestBytes 34 = .ok (.iconst 2, 1) := by decide +kernel
theorem d_Trk_fewestBytes_35 : decode b_Trk_fewestBytes 35 = .ok (.ireturn, 1) := by decide +kernel
theorem d_Trk_fewestBytes_36 : decode b_Trk_fewestBytes 36 = .ok (.lload_n 0, 1) := by decide +kernel
theorem d_Trk_fewestBytes_37 : decode b_Trk_fewestBytes 37 = .ok (.ldc2_w 50, 3) := by decide +kernel
theorem d_Trk_fewestBytes_40 : decode b_Trk_fewestBytes 40 = .ok (.lcmp, 1) := by decide +kernel
theorem d_Trk_fewestBytes_41 : decode b_Trk_fewestBytes 41 = .ok (.ifCond .lt 15, 3) := by decide +kernel
theorem d_Trk_fewestBytes_44 : decode b_Trk_fewestBytes 44 = .ok (.lload_n 0, 1) := by decide +kernel
theorem d_Trk_fewestBytes_45 : decode b_Trk_fewestBytes 45 = .ok (.ldc2_w 52, 3) := by decide +kernel
theorem d_Trk_fewestBytes_48 : decode b_Trk_fewestBytes 48 = .ok (.lcmp, 1) := by decide +kernel
theorem d_Trk_fewestBytes_49 : decode b_Trk_fewestBytes 49 = .ok (.ifCond .ge 7, 3) := by decide +kernel
theorem d_Trk_fewestBytes_52 : decode b_Trk_fewestBytes 52 = .ok (.iconst 3, 1) := by decide +kernel
theorem d_Trk_fewestBytes_53 : decode b_Trk_fewestBytes 53 = .ok (.goto 4, 3) := by decide +kernel
theorem d_Trk_fewestBytes_56 : decode b_Trk_fewestBytes 56 = .ok (.iconst 4, 1) := by decide +kernel
theorem d_Trk_fewestBytes_57 : decode b_Trk_fewestBytes 57 = .ok (.ireturn, 1) := by decide +kernel
theorem d_Itm_init_0 : decode b_Itm_init 0 = .ok (.aload_n 0, 1) := by decide +kernel
theorem d_Itm_init_1 : decode b_Itm_init 1 = .ok (.invokespecial 1, 3) := by decide +kernel
theorem d_Itm_init_4 : decode b_Itm_init 4 = .ok (.aload_n 0, 1) := by decide +kernel
theorem d_Itm_init_5 : decode b_Itm_init 5 = .ok (.iload_n 1, 1) := by decide +kernel
theorem d_Itm_init_6 : decode b_Itm_init 6 = .ok (.putfield 7, 3) := by decide +kernel
theorem d_Itm_init_9 : decode b_Itm_init 9 = .ok (.aload_n 0, 1) := by decide +kernel
theorem d_Itm_init_10 : decode b_Itm_init 10 = .ok (.iload_n 2, 1) := by decide +kernel
theorem d_Itm_init_11 : decode b_Itm_init 11 = .ok (.putfield 13, 3) := by decide +kernel
theorem d_Itm_init_14 : decode b_Itm_init 14 = .ok (.aload_n 0, 1) := by decide +kernel
theorem d_Itm_init_15 : decode b_Itm_init 15 = .ok (.iload_n 3, 1) := by decide +kernel
theorem d_Itm_init_16 : decode b_Itm_init 16 = .ok (.putfield 16, 3) := by decide +kernel
theorem d_Itm_init_19 : decode b_Itm_init 19 = .ok (.aload_n 0, 1) := by decide +kernel
theorem d_Itm_init_20 : decode b_Itm_init 20 = .ok (.iload 4, 2) := by decide +kernel
theorem d_Itm_init_22 : decode b_Itm_init 22 = .ok (.putfield 19, 3) := by decide +kernel
theorem d_Itm_init_25 : decode b_Itm_init 25 = .ok (.return_, 1) := by decide +kernel
theorem d_Box_init_0 : decode b_Box_init 0 = .ok (.aload_n 0, 1) := by decide +kernel
theorem d_Box_init_1 : decode b_Box_init 1 = .ok (.invokespecial 1, 3) := by decide +kernel
theorem d_Box_init_4 : decode b_Box_init 4 = .ok (.aload_n 0, 1) := by decide +kernel
theorem d_Box_init_5 : decode b_Box_init 5 = .ok (.aload_n 1, 1) := by decide +kernel
theorem d_Box_init_6 : decode b_Box_init 6 = .ok (.getfield 7, 3) := by decide +kernel
theorem d_Box_init_9 : decode b_Box_init 9 = .ok (.putfield 13, 3) := by decide +kernel
theorem d_Box_init_12 : decode b_Box_init 12 = .ok (.aload_n 0, 1) := by decide +kernel
theorem d_Box_init_13 : decode b_Box_init 13 = .ok (.iload_n 2, 1) := by decide +kernel
theorem d_Box_init_14 : decode b_Box_init 14 = .ok (.putfield 16, 3) := by decide +kernel
theorem d_Box_init_17 : decode b_Box_init 17 = .ok (.aload_n 0, 1) := by decide +kernel
theorem d_Box_init_18 : decode b_Box_init 18 = .ok (.iload_n 3, 1) := by decide +kernel
theorem d_Box_init_19 : decode b_Box_init 19 = .ok (.putfield 20, 3) := by decide +kernel
theorem d_Box_init_22 : decode b_Box_init 22 = .ok (.aload_n 0, 1) := by decide +kernel
theorem d_Box_init_23 : decode b_Box_init 23 = .ok (.iload 4, 2) := by decide +kernel
theorem d_Box_init_25 : decode b_Box_init 25 = .ok (.putfield 23, 3) := by decide +kernel
theorem d_Box_init_28 : decode b_Box_init 28 = .ok (.aload_n 0, 1) := by decide +kernel
theorem d_Box_init_29 : decode b_Box_init 29 = .ok (.aload_n 1, 1) := by decide +kernel
theorem d_Box_init_30 : decode b_Box_init 30 = .ok (.getfield 26, 3) := by decide +kernel
theorem d_Box_init_33 : decode b_Box_init 33 = .ok (.putfield 30, 3) := by decide +kernel
theorem d_Box_init_36 : decode b_Box_init 36 = .ok (.aload_n 0, 1) := by decide +kernel
theorem d_Box_init_37 : decode b_Box_init 37 = .ok (.aload_n 1, 1) := by decide +kernel
theorem d_Box_init_38 : decode b_Box_init 38 = .ok (.getfield 31, 3) := by decide +kernel
theorem d_Box_init_41 : decode b_Box_init 41 = .ok (.iconst 1, 1) := by decide +kernel
theorem d_Box_init_42 : decode b_Box_init 42 = .ok (.iadd, 1) := by decide +kernel
theorem d_Box_init_43 : decode b_Box_init 43 = .ok (.putfield 34, 3) := by decide +kernel
theorem d_Box_init_46 : decode b_Box_init 46 = .ok (.aload_n 0, 1) := by decide +kernel
theorem d_Box_init_47 : decode b_Box_init 47 = .ok (.aload_n 1, 1) := by decide +kernel
theorem d_Box_init_48 : decode b_Box_init 48 = .ok (.getfield 35, 3) := by decide +kernel
theorem d_Box_init_51 : decode b_Box_init 51 = .ok (.iconst 1, 1) := by decide +kernel
theorem d_Box_init_52 : decode b_Box_init 52 = .ok (.iadd, 1) := by decide +kernel
theorem d_Box_init_53 : decode b_Box_init 53 = .ok (.putfield 38, 3) := by decide +kernel
theorem d_Box_init_56 : decode b_Box_init 56 = .ok (.return_, 1) := by decide +kernel
theorem d_OpL_init_0 : decode b_OpL_init 0 = .ok (.aload_n 0, 1) := by decide +kernel
theorem d_OpL_init_1 : decode b_OpL_init 1 = .ok (.invokespecial 3, 3) := by decide +kernel
theorem d_OpL_init_4 : decode b_OpL_init 4 = .ok (.aload_n 0, 1) := by decide +kernel
theorem d_OpL_init_5 : decode b_OpL_init 5 = .ok (.iload_n 1, 1) := by decide +kernel
theorem d_OpL_init_6 : decode b_OpL_init 6 = .ok (.putfield 9, 3) := by decide +kernel
theorem d_OpL_init_9 : decode b_OpL_init 9 = .ok (.aload_n 0, 1) := by decide +kernel
theorem d_OpL_init_10 : decode b_OpL_init 10 = .ok (.aload_n 2, 1) := by decide +kernel
theorem d_OpL_init_11 : decode b_OpL_init 11 = .ok (.putfield 15, 3) := by decide +kernel
theorem d_OpL_init_14 : decode b_OpL_init 14 = .ok (.aload_n 0, 1) := by decide +kernel
theorem d_OpL_init_15 : decode b_OpL_init 15 = .ok (.aload_n 2, 1) := by decide +kernel
theorem d_OpL_init_16 : decode b_OpL_init 16 = .ok (.ifnonnull 7, 3) := by decide +kernel
theorem d_OpL_init_19 : decode b_OpL_init 19 = .ok (.iconst 1, 1) := by decide +kernel
theorem d_OpL_init_20 : decode b_OpL_init 20 = .ok (.goto 9, 3) := by decide +kernel
theorem d_OpL_init_23 : decode b_OpL_init 23 = .ok (.aload_n 2, 1) := by decide +kernel
theorem d_OpL_init_24 : decode b_OpL_init 24 = .ok (.getfield 19, 3) := by decide +kernel
theorem d_OpL_init_27 : decode b_OpL_init 27 = .ok (.iconst 1, 1) := by decide +kernel
theorem d_OpL_init_28 : decode b_OpL_init 28 = .ok (.iadd, 1) := by decide +kernel
theorem d_OpL_init_29 : decode b_OpL_init 29 = .ok (.putfield 19, 3) := by decide +kernel
theorem d_OpL_init_32 : decode b_OpL_init 32 = .ok (.return_, 1) := by decide +kernel
theorem d_OpL_join_0 : decode b_OpL_join 0 = .ok (.aload_n 0, 1) := by decide +kernel
theorem d_OpL_join_1 : decode b_OpL_join 1 = .ok (.getfield 23, 3) := by decide +kernel
theorem d_OpL_join_4 : decode b_OpL_join 4 = .ok (.ifnonnull 11, 3) := by decide +kernel
theorem d_OpL_join_7 : decode b_OpL_join 7 = .ok (.aload_n 0, 1) := by decide +kernel
theorem d_OpL_join_8 : decode b_OpL_join 8 = .ok (.aload_n 1, 1) := by decide +kernel
theorem d_OpL_join_9 : decode b_OpL_join 9 = .ok (.putfield 27, 3) := by decide +kernel
theorem d_OpL_join_12 : decode b_OpL_join 12 = .ok (.goto 11, 3) := by decide +kernel
theorem d_OpL_join_15 : decode b_OpL_join 15 = .ok (.aload_n 0, 1) := by decide +kernel
theorem d_OpL_join_16 : decode b_OpL_join 16 = .ok (.getfield 23, 3) := by decide +kernel
theorem d_OpL_join_19 : decode b_OpL_join 19 = .ok (.aload_n 1, 1) := by decide +kernel
theorem d_OpL_join_20 : decode b_OpL_join 20 = .ok (.putfield 30, 3) := by decide +kernel
theorem d_OpL_join_23 : decode b_OpL_join 23 = .ok (.aload_n 0, 1) := by decide +kernel
theorem d_OpL_join_24 : decode b_OpL_join 24 = .ok (.aload_n 1, 1) := by decide +kernel
theorem d_OpL_join_25 : decode b_OpL_join 25 = .ok (.putfield 23, 3) := by decide +kernel
theorem d_OpL_join_28 : decode b_OpL_join 28 = .ok (.aload_n 0, 1) := by decide +kernel
theorem d_OpL_join_29 : decode b_OpL_join 29 = .ok (.dup, 1) := by decide +kernel
theorem d_OpL_join_30 : decode b_OpL_join 30 = .ok (.getfield 35, 3) := by decide +kernel
theorem d_OpL_join_33 : decode b_OpL_join 33 = .ok (.iconst 1, 1) := by decide +kernel
theorem d_OpL_join_34 : decode b_OpL_join 34 = .ok (.iadd, 1) := by decide +kernel
theorem d_OpL_join_35 : decode b_OpL_join 35 = .ok (.putfield 35, 3) := by decide +kernel
theorem d_OpL_join_38 : decode b_OpL_join 38 = .ok (.aload_n 1, 1) := by decide +kernel
theorem d_OpL_join_39 : decode b_OpL_join 39 = .ok (.getfield 38, 3) := by decide +kernel
theorem d_OpL_join_42 : decode b_OpL_join 42 = .ok (.ifnull 39, 3) := by decide +kernel
theorem d_OpL_join_45 : decode b_OpL_join 45 = .ok (.aload_n 0, 1) := by decide +kernel
theorem d_OpL_join_46 : decode b_OpL_join 46 = .ok (.dup, 1) := by decide +kernel
theorem d_OpL_join_47 : decode b_OpL_join 47 = .ok (.getfield 35, 3) := by decide +kernel
theorem d_OpL_join_50 : decode b_OpL_join 50 = .ok (.aload_n 1, 1) := by decide +kernel
theorem d_OpL_join_51 : decode b_OpL_join 51 = .ok (.getfield 38, 3) := by decide +kernel
theorem d_OpL_join_54 : decode b_OpL_join 54 = .ok (.getfield 42, 3) := by decide +kernel
theorem d_OpL_join_57 : decode b_OpL_join 57 = .ok (.iconst 1, 1) := by decide +kernel
theorem d_OpL_join_58 : decode b_OpL_join 58 = .ok (.isub, 1) := by decide +kernel
theorem d_OpL_join_59 : decode b_OpL_join 59 = .ok (.iadd, 1) := by decide +kernel
theorem d_OpL_join_60 : decode b_OpL_join 60 = .ok (.putfield 35, 3) := by decide +kernel
theorem d_OpL_join_63 : decode b_OpL_join 63 = .ok (.aload_n 0, 1) := by decide +kernel
theorem d_OpL_join_64 : decode b_OpL_join 64 = .ok (.aload_n 0, 1) := by decide +kernel
theorem d_OpL_join_65 : decode b_OpL_join 65 = .ok (.getfield 45, 3) := by decide +kernel
theorem d_OpL_join_68 : decode b_OpL_join 68 = .ok (.aload_n 1, 1) := by decide +kernel
theorem d_OpL_join_69 : decode b_OpL_join 69 = .ok (.getfield 38, 3) := by decide +kernel
theorem d_OpL_join_72 : decode b_OpL_join 72 = .ok (.getfield 48, 3) := by decide +kernel
theorem d_OpL_join_75 : decode b_OpL_join 75 = .ok (.invokestatic 49, 3) := by decide +kernel
theorem d_OpL_join_78 : decode b_OpL_join 78 = .ok (.putfield 45, 3) := by decide +kernel
theorem d_OpL_join_81 : decode b_OpL_join 81 = .ok (.aload_n 0, 1) := by decide +kernel
theorem d_OpL_join_82 : decode b_OpL_join 82 = .ok (.getfield 9, 3) := by decide +kernel
theorem d_OpL_join_85 : decode b_OpL_join 85 = .ok (.ifCond .eq 11, 3) := by decide +kernel
theorem d_OpL_join_88 : decode b_OpL_join 88 = .ok (.aload_n 0, 1) := by decide +kernel
theorem d_OpL_join_89 : decode b_OpL_join 89 = .ok (.aload_n 1, 1) := by decide +kernel
theorem d_OpL_join_90 : decode b_OpL_join 90 = .ok (.invokevirtual 55, 3) := by decide +kernel
theorem d_OpL_join_93 : decode b_OpL_join 93 = .ok (.goto 8, 3) := by decide +kernel
theorem d_OpL_join_96 : decode b_OpL_join 96 = .ok (.aload_n 0, 1) := by decide +kernel
theorem d_OpL_join_97 : decode b_OpL_join 97 = .ok (.aload_n 1, 1) := by decide +kernel
theorem d_OpL_join_98 : decode b_OpL_join 98 = .ok (.invokevirtual 59, 3) := by decide +kernel
theorem d_OpL_join_101 : decode b_OpL_join 101 = .ok (.return_, 1) := by decide +kernel
theorem d_OpL_measureAcross_0 : decode b_OpL_measureAcross 0 = .ok (.aload_n 0, 1) := by decide +kernel
theorem d_OpL_measureAcross_1 : decode b_OpL_measureAcross 1 = .ok (.dup, 1) := by decide +kernel
theorem d_OpL_measureAcross_2 : decode b_OpL_measureAcross 2 = .ok (.getfield 62, 3) := by decide +kernel
theorem d_OpL_measureAcross_5 : decode b_OpL_measureAcross 5 = .ok (.aload_n 1, 1) := by decide +kernel
theorem d_OpL_measureAcross_6 : decode b_OpL_measureAcross 6 = .ok (.getfield 66, 3) := by decide +kernel
theorem d_OpL_measureAcross_9 : decode b_OpL_measureAcross 9 = .ok (.i2l, 1) := by decide +kernel
theorem d_OpL_measureAcross_10 : decode b_OpL_measureAcross 10 = .ok (.ladd, 1) := by decide +kernel
theorem d_OpL_measureAcross_11 : decode b_OpL_measureAcross 11 = .ok (.putfield 62, 3) := by decide +kernel
theorem d_OpL_measureAcross_14 : decode b_OpL_measureAcross 14 = .ok (.aload_n 0, 1) := by decide +kernel
theorem d_OpL_measureAcross_15 : decode b_OpL_measureAcross 15 = .ok (.aload_n 0, 1) := by decide +kernel
theorem d_OpL_measureAcross_16 : decode b_OpL_measureAcross 16 = .ok (.getfield 68, 3) := by decide +kernel
theorem d_OpL_measureAcross_19 : decode b_OpL_measureAcross 19 = .ok (.aload_n 1, 1) := by decide +kernel
theorem d_OpL_measureAcross_20 : decode b_OpL_measureAcross 20 = .ok (.getfield 71, 3) := by decide +kernel
theorem d_OpL_measureAcross_23 : decode b_OpL_measureAcross 23 = .ok (.i2l, 1) := by decide +kernel
theorem d_OpL_measureAcross_24 : decode b_OpL_measureAcross 24 = .ok (.aload_n 1, 1) := by decide +kernel
theorem d_OpL_measureAcross_25 : decode b_OpL_measureAcross 25 = .ok (.getfield 73, 3) := by decide +kernel
theorem d_OpL_measureAcross_28 : decode b_OpL_measureAcross 28 = .ok (.i2l, 1) := by decide +kernel
theorem d_OpL_measureAcross_29 : decode b_OpL_measureAcross 29 = .ok (.lsub, 1) := by decide +kernel
theorem d_OpL_measureAcross_30 : decode b_OpL_measureAcross 30 = .ok (.invokestatic 76, 3) := by decide +kernel
theorem d_OpL_measureAcross_33 : decode b_OpL_measureAcross 33 = .ok (.putfield 68, 3) := by decide +kernel
theorem d_OpL_measureAcross_36 : decode b_OpL_measureAcross 36 = .ok (.aload_n 0, 1) := by decide +kernel
theorem d_OpL_measureAcross_37 : decode b_OpL_measureAcross 37 = .ok (.aload_n 0, 1) := by decide +kernel
theorem d_OpL_measureAcross_38 : decode b_OpL_measureAcross 38 = .ok (.getfield 79, 3) := by decide +kernel
theorem d_OpL_measureAcross_41 : decode b_OpL_measureAcross 41 = .ok (.aload_n 1, 1) := by decide +kernel
theorem d_OpL_measureAcross_42 : decode b_OpL_measureAcross 42 = .ok (.getfield 82, 3) := by decide +kernel
theorem d_OpL_measureAcross_45 : decode b_OpL_measureAcross 45 = .ok (.i2l, 1) := by decide +kernel
theorem d_OpL_measureAcross_46 : decode b_OpL_measureAcross 46 = .ok (.aload_n 1, 1) := by decide +kernel
theorem d_OpL_measureAcross_47 : decode b_OpL_measureAcross 47 = .ok (.getfield 73, 3) := by decide +kernel
theorem d_OpL_measureAcross_50 : decode b_OpL_measureAcross 50 = .ok (.i2l, 1) := by decide +kernel
theorem d_OpL_measureAcross_51 : decode b_OpL_measureAcross 51 = .ok (.ladd, 1) := by decide +kernel
theorem d_OpL_measureAcross_52 : decode b_OpL_measureAcross 52 = .ok (.invokestatic 76, 3) := by decide +kernel
theorem d_OpL_measureAcross_55 : decode b_OpL_measureAcross 55 = .ok (.putfield 79, 3) := by decide +kernel
theorem d_OpL_measureAcross_58 : decode b_OpL_measureAcross 58 = .ok (.return_, 1) := by decide +kernel
theorem d_OpL_measureDown_0 : decode b_OpL_measureDown 0 = .ok (.aload_n 0, 1) := by decide +kernel
theorem d_OpL_measureDown_1 : decode b_OpL_measureDown 1 = .ok (.dup, 1) := by decide +kernel
theorem d_OpL_measureDown_2 : decode b_OpL_measureDown 2 = .ok (.getfield 68, 3) := by decide +kernel
theorem d_OpL_measureDown_5 : decode b_OpL_measureDown 5 = .ok (.aload_n 0, 1) := by decide +kernel
theorem d_OpL_measureDown_6 : decode b_OpL_measureDown 6 = .ok (.getfield 79, 3) := by decide +kernel
theorem d_OpL_measureDown_9 : decode b_OpL_measureDown 9 = .ok (.ladd, 1) := by decide +kernel
theorem d_OpL_measureDown_10 : decode b_OpL_measureDown 10 = .ok (.putfield 68, 3) := by decide +kernel
theorem d_OpL_measureDown_13 : decode b_OpL_measureDown 13 = .ok (.aload_n 1, 1) := by decide +kernel
theorem d_OpL_measureDown_14 : decode b_OpL_measureDown 14 = .ok (.getfield 84, 3) := by decide +kernel
theorem d_OpL_measureDown_17 : decode b_OpL_measureDown 17 = .ok (.iconst 2, 1) := by decide +kernel
theorem d_OpL_measureDown_18 : decode b_OpL_measureDown 18 = .ok (.if_icmp .ne 25, 3) := by decide +kernel
theorem d_OpL_measureDown_21 : decode b_OpL_measureDown 21 = .ok (.aload_n 0, 1) := by decide +kernel
theorem d_OpL_measureDown_22 : decode b_OpL_measureDown 22 = .ok (.dup, 1) := by decide +kernel
theorem d_OpL_measureDown_23 : decode b_OpL_measureDown 23 = .ok (.getfield 68, 3) := by decide +kernel
theorem d_OpL_measureDown_26 : decode b_OpL_measureDown 26 = .ok (.aload_n 1, 1) := by decide +kernel
theorem d_OpL_measureDown_27 : decode b_OpL_measureDown 27 = .ok (.getfield 66, 3) := by decide +kernel
theorem d_OpL_measureDown_30 : decode b_OpL_measureDown 30 = .ok (.i2l, 1) := by decide +kernel
theorem d_OpL_measureDown_31 : decode b_OpL_measureDown 31 = .ok (.ladd, 1) := by decide +kernel
theorem d_OpL_measureDown_32 : decode b_OpL_measureDown 32 = .ok (.putfield 68, 3) := by decide +kernel
theorem d_OpL_measureDown_35 : decode b_OpL_measureDown 35 = .ok (.aload_n 0, 1) := by decide +kernel
theorem d_OpL_measureDown_36 : decode b_OpL_measureDown 36 = .ok (.lconst 0, 1) := by decide +kernel
theorem d_OpL_measureDown_37 : decode b_OpL_measureDown 37 = .ok (.putfield 79, 3) := by decide +kernel
theorem d_OpL_measureDown_40 : decode b_OpL_measureDown 40 = .ok (.goto 48, 3) := by decide +kernel
theorem d_OpL_measureDown_43 : decode b_OpL_measureDown 43 = .ok (.aload_n 0, 1) := by decide +kernel
theorem d_OpL_measureDown_44 : decode b_OpL_measureDown 44 = .ok (.dup, 1) := by decide +kernel
theorem d_OpL_measureDown_45 : decode b_OpL_measureDown 45 = .ok (.getfield 68, 3) := by decide +kernel
theorem d_OpL_measureDown_48 : decode b_OpL_measureDown 48 = .ok (.aload_n 1, 1) := by decide +kernel
theorem d_OpL_measureDown_49 : decode b_OpL_measureDown 49 = .ok (.getfield 71, 3) := by decide +kernel
theorem d_OpL_measureDown_52 : decode b_OpL_measureDown 52 = .ok (.i2l, 1) := by decide +kernel
theorem d_OpL_measureDown_53 : decode b_OpL_measureDown 53 = .ok (.ladd, 1) := by decide +kernel
theorem d_OpL_measureDown_54 : decode b_OpL_measureDown 54 = .ok (.putfield 68, 3) := by decide +kernel
theorem d_OpL_measureDown_57 : decode b_OpL_measureDown 57 = .ok (.aload_n 0, 1) := by decide +kernel
theorem d_OpL_measureDown_58 : decode b_OpL_measureDown 58 = .ok (.aload_n 1, 1) := by decide +kernel
theorem d_OpL_measureDown_59 : decode b_OpL_measureDown 59 = .ok (.getfield 82, 3) := by decide +kernel
theorem d_OpL_measureDown_62 : decode b_OpL_measureDown 62 = .ok (.i2l, 1) := by decide +kernel
theorem d_OpL_measureDown_63 : decode b_OpL_measureDown 63 = .ok (.putfield 79, 3) := by decide +kernel
theorem d_OpL_measureDown_66 : decode b_OpL_measureDown 66 = .ok (.aload_n 0, 1) := by decide +kernel
theorem d_OpL_measureDown_67 : decode b_OpL_measureDown 67 = .ok (.aload_n 0, 1) := by decide +kernel
theorem d_OpL_measureDown_68 : decode b_OpL_measureDown 68 = .ok (.getfield 62, 3) := by decide +kernel
theorem d_OpL_measureDown_71 : decode b_OpL_measureDown 71 = .ok (.aload_n 1, 1) := by decide +kernel
theorem d_OpL_measureDown_72 : decode b_OpL_measureDown 72 = .ok (.getfield 66, 3) := by decide +kernel
theorem d_OpL_measureDown_75 : decode b_OpL_measureDown 75 = .ok (.i2l, 1) := by decide +kernel
theorem d_OpL_measureDown_76 : decode b_OpL_measureDown 76 = .ok (.aload_n 1, 1) := by decide +kernel
theorem d_OpL_measureDown_77 : decode b_OpL_measureDown 77 = .ok (.getfield 73, 3) := by decide +kernel
theorem d_OpL_measureDown_80 : decode b_OpL_measureDown 80 = .ok (.i2l, 1) := by decide +kernel
theorem d_OpL_measureDown_81 : decode b_OpL_measureDown 81 = .ok (.ladd, 1) := by decide +kernel
theorem d_OpL_measureDown_82 : decode b_OpL_measureDown 82 = .ok (.invokestatic 76, 3) := by decide +kernel
theorem d_OpL_measureDown_85 : decode b_OpL_measureDown 85 = .ok (.putfield 62, 3) := by decide +kernel
theorem d_OpL_measureDown_88 : decode b_OpL_measureDown 88 = .ok (.return_, 1) := by decide +kernel
theorem d_OpL_toBox_0 : decode b_OpL_toBox 0 = .ok (.aload_n 0, 1) := by decide +kernel
theorem d_OpL_toBox_1 : decode b_OpL_toBox 1 = .ok (.getfield 45, 3) := by decide +kernel
theorem d_OpL_toBox_4 : decode b_OpL_toBox 4 = .ok (.bipush 100, 2) := by decide +kernel
theorem d_OpL_toBox_6 : decode b_OpL_toBox 6 = .ok (.if_icmp .ge 21, 3) := by decide +kernel
theorem d_OpL_toBox_9 : decode b_OpL_toBox 9 = .ok (.aload_n 0, 1) := by decide +kernel
theorem d_OpL_toBox_10 : decode b_OpL_toBox 10 = .ok (.getfield 62, 3) := by decide +kernel
theorem d_OpL_toBox_13 : decode b_OpL_toBox 13 = .ok (.aload_n 0, 1) := by decide +kernel
theorem d_OpL_toBox_14 : decode b_OpL_toBox 14 = .ok (.getfield 68, 3) := by decide +kernel
theorem d_OpL_toBox_17 : decode b_OpL_toBox 17 = .ok (.aload_n 0, 1) := by decide +kernel
theorem d_OpL_toBox_18 : decode b_OpL_toBox 18 = .ok (.getfield 79, 3) := by decide +kernel
theorem d_OpL_toBox_21 : decode b_OpL_toBox 21 = .ok (.invokestatic 87, 3) := by decide +kernel
theorem d_OpL_toBox_24 : decode b_OpL_toBox 24 = .ok (.ifCond .ne 5, 3) := by decide +kernel
theorem d_OpL_toBox_27 : decode b_OpL_toBox 27 = .ok (.aconst_null, 1) := by decide +kernel
theorem d_OpL_toBox_28 : decode b_OpL_toBox 28 = .ok (.areturn, 1) := by decide +kernel
theorem d_OpL_toBox_29 : decode b_OpL_toBox 29 = .ok (.new 43, 3) := by decide +kernel
theorem d_OpL_toBox_32 : decode b_OpL_toBox 32 = .ok (.dup, 1) := by decide +kernel
theorem d_OpL_toBox_33 : decode b_OpL_toBox 33 = .ok (.aload_n 0, 1) := by decide +kernel
theorem d_OpL_toBox_34 : decode b_OpL_toBox 34 = .ok (.aload_n 0, 1) := by decide +kernel
theorem d_OpL_toBox_35 : decode b_OpL_toBox 35 = .ok (.getfield 62, 3) := by decide +kernel
theorem d_OpL_toBox_38 : decode b_OpL_toBox 38 = .ok (.l2i, 1) := by decide +kernel
theorem d_OpL_toBox_39 : decode b_OpL_toBox 39 = .ok (.aload_n 0, 1) := by decide +kernel
theorem d_OpL_toBox_40 : decode b_OpL_toBox 40 = .ok (.getfield 68, 3) := by decide +kernel
theorem d_OpL_toBox_43 : decode b_OpL_toBox 43 = .ok (.l2i, 1) := by decide +kernel
theorem d_OpL_toBox_44 : decode b_OpL_toBox 44 = .ok (.aload_n 0, 1) := by decide +kernel
theorem d_OpL_toBox_45 : decode b_OpL_toBox 45 = .ok (.getfield 79, 3) := by decide +kernel
theorem d_OpL_toBox_48 : decode b_OpL_toBox 48 = .ok (.l2i, 1) := by decide +kernel
theorem d_OpL_toBox_49 : decode b_OpL_toBox 49 = .ok (.invokespecial 91, 3) := by decide +kernel
theorem d_OpL_toBox_52 : decode b_OpL_toBox 52 = .ok (.areturn, 1) := by decide +kernel
theorem d_Fra_init_0 : decode b_Fra_init 0 = .ok (.aload_n 0, 1) := by decide +kernel
theorem d_Fra_init_1 : decode b_Fra_init 1 = .ok (.invokespecial 3, 3) := by decide +kernel
theorem d_Fra_init_4 : decode b_Fra_init 4 = .ok (.aload_n 0, 1) := by decide +kernel
theorem d_Fra_init_5 : decode b_Fra_init 5 = .ok (.new 9, 3) := by decide +kernel
theorem d_Fra_init_8 : decode b_Fra_init 8 = .ok (.dup, 1) := by decide +kernel
theorem d_Fra_init_9 : decode b_Fra_init 9 = .ok (.sipush 147, 3) := by decide +kernel
theorem d_Fra_init_12 : decode b_Fra_init 12 = .ok (.invokespecial 11, 3) := by decide +kernel
theorem d_Fra_init_15 : decode b_Fra_init 15 = .ok (.putfield 14, 3) := by decide +kernel
theorem d_Fra_init_18 : decode b_Fra_init 18 = .ok (.aload_n 0, 1) := by decide +kernel
theorem d_Fra_init_19 : decode b_Fra_init 19 = .ok (.new 9, 3) := by decide +kernel
theorem d_Fra_init_22 : decode b_Fra_init 22 = .ok (.dup, 1) := by decide +kernel
theorem d_Fra_init_23 : decode b_Fra_init 23 = .ok (.sipush 161, 3) := by decide +kernel
theorem d_Fra_init_26 : decode b_Fra_init 26 = .ok (.invokespecial 11, 3) := by decide +kernel
theorem d_Fra_init_29 : decode b_Fra_init 29 = .ok (.putfield 20, 3) := by decide +kernel
theorem d_Fra_init_32 : decode b_Fra_init 32 = .ok (.aload_n 0, 1) := by decide +kernel
theorem d_Fra_init_33 : decode b_Fra_init 33 = .ok (.aload_n 1, 1) := by decide +kernel
theorem d_Fra_init_34 : decode b_Fra_init 34 = .ok (.putfield 23, 3) := by decide +kernel
theorem d_Fra_init_37 : decode b_Fra_init 37 = .ok (.aload_n 0, 1) := by decide +kernel
theorem d_Fra_init_38 : decode b_Fra_init 38 = .ok (.aload_n 1, 1) := by decide +kernel
theorem d_Fra_init_39 : decode b_Fra_init 39 = .ok (.ifnonnull 7, 3) := by decide +kernel
theorem d_Fra_init_42 : decode b_Fra_init 42 = .ok (.iconst 1, 1) := by decide +kernel
theorem d_Fra_init_43 : decode b_Fra_init 43 = .ok (.goto 9, 3) := by decide +kernel
theorem d_Fra_init_46 : decode b_Fra_init 46 = .ok (.aload_n 1, 1) := by decide +kernel
theorem d_Fra_init_47 : decode b_Fra_init 47 = .ok (.getfield 27, 3) := by decide +kernel
theorem d_Fra_init_50 : decode b_Fra_init 50 = .ok (.iconst 1, 1) := by decide +kernel
theorem d_Fra_init_51 : decode b_Fra_init 51 = .ok (.iadd, 1) := by decide +kernel
theorem d_Fra_init_52 : decode b_Fra_init 52 = .ok (.putfield 27, 3) := by decide +kernel
theorem d_Fra_init_55 : decode b_Fra_init 55 = .ok (.return_, 1) := by decide +kernel
theorem d_Fra_inside_0 : decode b_Fra_inside 0 = .ok (.aload_n 0, 1) := by decide +kernel
theorem d_Fra_inside_1 : decode b_Fra_inside 1 = .ok (.getfield 31, 3) := by decide +kernel
theorem d_Fra_inside_4 : decode b_Fra_inside 4 = .ok (.ifnonnull 15, 3) := by decide +kernel
theorem d_Fra_inside_7 : decode b_Fra_inside 7 = .ok (.aload_n 0, 1) := by decide +kernel
theorem d_Fra_inside_8 : decode b_Fra_inside 8 = .ok (.new 15, 3) := by decide +kernel
theorem d_Fra_inside_11 : decode b_Fra_inside 11 = .ok (.dup, 1) := by decide +kernel
theorem d_Fra_inside_12 : decode b_Fra_inside 12 = .ok (.aload_n 0, 1) := by decide +kernel
theorem d_Fra_inside_13 : decode b_Fra_inside 13 = .ok (.invokespecial 34, 3) := by decide +kernel
theorem d_Fra_inside_16 : decode b_Fra_inside 16 = .ok (.putfield 31, 3) := by decide +kernel
end
section
theorem d_Fra_inside_19 : decode b_Fra_inside 19 = .ok (.aload_n 0, 1) := by decide +kernel
theorem d_Fra_inside_20 : decode b_Fra_inside 20 = .ok (.getfield 31, 3) := by decide +kernel
theorem d_Fra_inside_23 : decode b_Fra_inside 23 = .ok (.areturn, 1) := by decide +kernel
theorem d_Fra_begin_0 : decode b_Fra_begin 0 = .ok (.aload_n 0, 1) := by decide +kernel
theorem d_Fra_begin_1 : decode b_Fra_begin 1 = .ok (.getfield 14, 3) := by decide +kernel
theorem d_Fra_begin_4 : decode b_Fra_begin 4 = .ok (.aload_n 2, 1) := by decide +kernel
theorem d_Fra_begin_5 : decode b_Fra_begin 5 = .ok (.invokevirtual 37, 3) := by decide +kernel
theorem d_Fra_begin_8 : decode b_Fra_begin 8 = .ok (.aload_n 0, 1) := by decide +kernel
theorem d_Fra_begin_9 : decode b_Fra_begin 9 = .ok (.getfield 20, 3) := by decide +kernel
theorem d_Fra_begin_12 : decode b_Fra_begin 12 = .ok (.aload_n 3, 1) := by decide +kernel
theorem d_Fra_begin_13 : decode b_Fra_begin 13 = .ok (.invokevirtual 37, 3) := by decide +kernel
theorem d_Fra_begin_16 : decode b_Fra_begin 16 = .ok (.aload_n 0, 1) := by decide +kernel
theorem d_Fra_begin_17 : decode b_Fra_begin 17 = .ok (.aload_n 1, 1) := by decide +kernel
theorem d_Fra_begin_18 : decode b_Fra_begin 18 = .ok (.getfield 41, 3) := by decide +kernel
theorem d_Fra_begin_21 : decode b_Fra_begin 21 = .ok (.putfield 47, 3) := by decide +kernel
theorem d_Fra_begin_24 : decode b_Fra_begin 24 = .ok (.aload_n 0, 1) := by decide +kernel
theorem d_Fra_begin_25 : decode b_Fra_begin 25 = .ok (.aload_n 1, 1) := by decide +kernel
theorem d_Fra_begin_26 : decode b_Fra_begin 26 = .ok (.getfield 48, 3) := by decide +kernel
theorem d_Fra_begin_29 : decode b_Fra_begin 29 = .ok (.putfield 51, 3) := by decide +kernel
theorem d_Fra_begin_32 : decode b_Fra_begin 32 = .ok (.aload_n 0, 1) := by decide +kernel
theorem d_Fra_begin_33 : decode b_Fra_begin 33 = .ok (.aload_n 1, 1) := by decide +kernel
theorem d_Fra_begin_34 : decode b_Fra_begin 34 = .ok (.getfield 52, 3) := by decide +kernel
theorem d_Fra_begin_37 : decode b_Fra_begin 37 = .ok (.putfield 55, 3) := by decide +kernel
theorem d_Fra_begin_40 : decode b_Fra_begin 40 = .ok (.aload_n 0, 1) := by decide +kernel
theorem d_Fra_begin_41 : decode b_Fra_begin 41 = .ok (.aload_n 1, 1) := by decide +kernel
theorem d_Fra_begin_42 : decode b_Fra_begin 42 = .ok (.getfield 56, 3) := by decide +kernel
theorem d_Fra_begin_45 : decode b_Fra_begin 45 = .ok (.putfield 59, 3) := by decide +kernel
theorem d_Fra_begin_48 : decode b_Fra_begin 48 = .ok (.aload_n 0, 1) := by decide +kernel
theorem d_Fra_begin_49 : decode b_Fra_begin 49 = .ok (.aload_n 2, 1) := by decide +kernel
theorem d_Fra_begin_50 : decode b_Fra_begin 50 = .ok (.getfield 60, 3) := by decide +kernel
theorem d_Fra_begin_53 : decode b_Fra_begin 53 = .ok (.putfield 63, 3) := by decide +kernel
theorem d_Fra_begin_56 : decode b_Fra_begin 56 = .ok (.aload_n 0, 1) := by decide +kernel
theorem d_Fra_begin_57 : decode b_Fra_begin 57 = .ok (.aload_n 3, 1) := by decide +kernel
theorem d_Fra_begin_58 : decode b_Fra_begin 58 = .ok (.getfield 60, 3) := by decide +kernel
theorem d_Fra_begin_61 : decode b_Fra_begin 61 = .ok (.putfield 66, 3) := by decide +kernel
theorem d_Fra_begin_64 : decode b_Fra_begin 64 = .ok (.aload_n 0, 1) := by decide +kernel
theorem d_Fra_begin_65 : decode b_Fra_begin 65 = .ok (.aload_n 0, 1) := by decide +kernel
theorem d_Fra_begin_66 : decode b_Fra_begin 66 = .ok (.getfield 47, 3) := by decide +kernel
theorem d_Fra_begin_69 : decode b_Fra_begin 69 = .ok (.ifCond .eq 15, 3) := by decide +kernel
theorem d_Fra_begin_72 : decode b_Fra_begin 72 = .ok (.aload_n 0, 1) := by decide +kernel
theorem d_Fra_begin_73 : decode b_Fra_begin 73 = .ok (.getfield 66, 3) := by decide +kernel
theorem d_Fra_begin_76 : decode b_Fra_begin 76 = .ok (.aload_n 0, 1) := by decide +kernel
theorem d_Fra_begin_77 : decode b_Fra_begin 77 = .ok (.getfield 55, 3) := by decide +kernel
theorem d_Fra_begin_80 : decode b_Fra_begin 80 = .ok (.isub, 1) := by decide +kernel
theorem d_Fra_begin_81 : decode b_Fra_begin 81 = .ok (.goto 7, 3) := by decide +kernel
theorem d_Fra_begin_84 : decode b_Fra_begin 84 = .ok (.aload_n 0, 1) := by decide +kernel
theorem d_Fra_begin_85 : decode b_Fra_begin 85 = .ok (.getfield 63, 3) := by decide +kernel
theorem d_Fra_begin_88 : decode b_Fra_begin 88 = .ok (.putfield 69, 3) := by decide +kernel
theorem d_Fra_begin_91 : decode b_Fra_begin 91 = .ok (.aload_n 0, 1) := by decide +kernel
theorem d_Fra_begin_92 : decode b_Fra_begin 92 = .ok (.aload_n 1, 1) := by decide +kernel
theorem d_Fra_begin_93 : decode b_Fra_begin 93 = .ok (.getfield 72, 3) := by decide +kernel
theorem d_Fra_begin_96 : decode b_Fra_begin 96 = .ok (.putfield 76, 3) := by decide +kernel
theorem d_Fra_begin_99 : decode b_Fra_begin 99 = .ok (.return_, 1) := by decide +kernel
theorem d_Fra_widthOf_0 : decode b_Fra_widthOf 0 = .ok (.aload_n 1, 1) := by decide +kernel
theorem d_Fra_widthOf_1 : decode b_Fra_widthOf 1 = .ok (.getfield 79, 3) := by decide +kernel
theorem d_Fra_widthOf_4 : decode b_Fra_widthOf 4 = .ok (.iconst 1, 1) := by decide +kernel
theorem d_Fra_widthOf_5 : decode b_Fra_widthOf 5 = .ok (.iand, 1) := by decide +kernel
theorem d_Fra_widthOf_6 : decode b_Fra_widthOf 6 = .ok (.ifCond .eq 10, 3) := by decide +kernel
theorem d_Fra_widthOf_9 : decode b_Fra_widthOf 9 = .ok (.aload_n 0, 1) := by decide +kernel
theorem d_Fra_widthOf_10 : decode b_Fra_widthOf 10 = .ok (.getfield 51, 3) := by decide +kernel
theorem d_Fra_widthOf_13 : decode b_Fra_widthOf 13 = .ok (.goto 7, 3) := by decide +kernel
theorem d_Fra_widthOf_16 : decode b_Fra_widthOf 16 = .ok (.aload_n 1, 1) := by decide +kernel
theorem d_Fra_widthOf_17 : decode b_Fra_widthOf 17 = .ok (.getfield 84, 3) := by decide +kernel
theorem d_Fra_widthOf_20 : decode b_Fra_widthOf 20 = .ok (.ireturn, 1) := by decide +kernel
theorem d_Fra_heightOf_0 : decode b_Fra_heightOf 0 = .ok (.aload_n 1, 1) := by decide +kernel
theorem d_Fra_heightOf_1 : decode b_Fra_heightOf 1 = .ok (.getfield 79, 3) := by decide +kernel
theorem d_Fra_heightOf_4 : decode b_Fra_heightOf 4 = .ok (.iconst 2, 1) := by decide +kernel
theorem d_Fra_heightOf_5 : decode b_Fra_heightOf 5 = .ok (.iand, 1) := by decide +kernel
theorem d_Fra_heightOf_6 : decode b_Fra_heightOf 6 = .ok (.ifCond .eq 10, 3) := by decide +kernel
theorem d_Fra_heightOf_9 : decode b_Fra_heightOf 9 = .ok (.aload_n 0, 1) := by decide +kernel
theorem d_Fra_heightOf_10 : decode b_Fra_heightOf 10 = .ok (.getfield 55, 3) := by decide +kernel
theorem d_Fra_heightOf_13 : decode b_Fra_heightOf 13 = .ok (.goto 7, 3) := by decide +kernel
theorem d_Fra_heightOf_16 : decode b_Fra_heightOf 16 = .ok (.aload_n 1, 1) := by decide +kernel
theorem d_Fra_heightOf_17 : decode b_Fra_heightOf 17 = .ok (.getfield 85, 3) := by decide +kernel
theorem d_Fra_heightOf_20 : decode b_Fra_heightOf 20 = .ok (.ireturn, 1) := by decide +kernel
theorem d_Fra_depthOf_0 : decode b_Fra_depthOf 0 = .ok (.aload_n 1, 1) := by decide +kernel
theorem d_Fra_depthOf_1 : decode b_Fra_depthOf 1 = .ok (.getfield 79, 3) := by decide +kernel
theorem d_Fra_depthOf_4 : decode b_Fra_depthOf 4 = .ok (.iconst 4, 1) := by decide +kernel
theorem d_Fra_depthOf_5 : decode b_Fra_depthOf 5 = .ok (.iand, 1) := by decide +kernel
theorem d_Fra_depthOf_6 : decode b_Fra_depthOf 6 = .ok (.ifCond .eq 10, 3) := by decide +kernel
theorem d_Fra_depthOf_9 : decode b_Fra_depthOf 9 = .ok (.aload_n 0, 1) := by decide +kernel
theorem d_Fra_depthOf_10 : decode b_Fra_depthOf 10 = .ok (.getfield 59, 3) := by decide +kernel
theorem d_Fra_depthOf_13 : decode b_Fra_depthOf 13 = .ok (.goto 7, 3) := by decide +kernel
theorem d_Fra_depthOf_16 : decode b_Fra_depthOf 16 = .ok (.aload_n 1, 1) := by decide +kernel
theorem d_Fra_depthOf_17 : decode b_Fra_depthOf 17 = .ok (.getfield 86, 3) := by decide +kernel
theorem d_Fra_depthOf_20 : decode b_Fra_depthOf 20 = .ok (.ireturn, 1) := by decide +kernel
theorem d_Fra_extentOf_0 : decode b_Fra_extentOf 0 = .ok (.aload_n 0, 1) := by decide +kernel
theorem d_Fra_extentOf_1 : decode b_Fra_extentOf 1 = .ok (.aload_n 1, 1) := by decide +kernel
theorem d_Fra_extentOf_2 : decode b_Fra_extentOf 2 = .ok (.invokevirtual 87, 3) := by decide +kernel
theorem d_Fra_extentOf_5 : decode b_Fra_extentOf 5 = .ok (.i2l, 1) := by decide +kernel
theorem d_Fra_extentOf_6 : decode b_Fra_extentOf 6 = .ok (.aload_n 0, 1) := by decide +kernel
theorem d_Fra_extentOf_7 : decode b_Fra_extentOf 7 = .ok (.aload_n 1, 1) := by decide +kernel
theorem d_Fra_extentOf_8 : decode b_Fra_extentOf 8 = .ok (.invokevirtual 91, 3) := by decide +kernel
theorem d_Fra_extentOf_11 : decode b_Fra_extentOf 11 = .ok (.i2l, 1) := by decide +kernel
theorem d_Fra_extentOf_12 : decode b_Fra_extentOf 12 = .ok (.ladd, 1) := by decide +kernel
theorem d_Fra_extentOf_13 : decode b_Fra_extentOf 13 = .ok (.lreturn, 1) := by decide +kernel
theorem d_Fra_rightOf_0 : decode b_Fra_rightOf 0 = .ok (.aload_n 0, 1) := by decide +kernel
theorem d_Fra_rightOf_1 : decode b_Fra_rightOf 1 = .ok (.getfield 47, 3) := by decide +kernel
theorem d_Fra_rightOf_4 : decode b_Fra_rightOf 4 = .ok (.ifCond .eq 17, 3) := by decide +kernel
theorem d_Fra_rightOf_7 : decode b_Fra_rightOf 7 = .ok (.aload_n 0, 1) := by decide +kernel
theorem d_Fra_rightOf_8 : decode b_Fra_rightOf 8 = .ok (.getfield 63, 3) := by decide +kernel
theorem d_Fra_rightOf_11 : decode b_Fra_rightOf 11 = .ok (.i2l, 1) := by decide +kernel
theorem d_Fra_rightOf_12 : decode b_Fra_rightOf 12 = .ok (.aload_n 1, 1) := by decide +kernel
theorem d_Fra_rightOf_13 : decode b_Fra_rightOf 13 = .ok (.getfield 94, 3) := by decide +kernel
theorem d_Fra_rightOf_16 : decode b_Fra_rightOf 16 = .ok (.i2l, 1) := by decide +kernel
theorem d_Fra_rightOf_17 : decode b_Fra_rightOf 17 = .ok (.ladd, 1) := by decide +kernel
theorem d_Fra_rightOf_18 : decode b_Fra_rightOf 18 = .ok (.goto 8, 3) := by decide +kernel
theorem d_Fra_rightOf_21 : decode b_Fra_rightOf 21 = .ok (.aload_n 0, 1) := by decide +kernel
theorem d_Fra_rightOf_22 : decode b_Fra_rightOf 22 = .ok (.getfield 69, 3) := by decide +kernel
theorem d_Fra_rightOf_25 : decode b_Fra_rightOf 25 = .ok (.i2l, 1) := by decide +kernel
theorem d_Fra_rightOf_26 : decode b_Fra_rightOf 26 = .ok (.lreturn, 1) := by decide +kernel
theorem d_Fra_downOf_0 : decode b_Fra_downOf 0 = .ok (.aload_n 0, 1) := by decide +kernel
theorem d_Fra_downOf_1 : decode b_Fra_downOf 1 = .ok (.getfield 47, 3) := by decide +kernel
theorem d_Fra_downOf_4 : decode b_Fra_downOf 4 = .ok (.ifCond .eq 31, 3) := by decide +kernel
theorem d_Fra_downOf_7 : decode b_Fra_downOf 7 = .ok (.aload_n 0, 1) := by decide +kernel
theorem d_Fra_downOf_8 : decode b_Fra_downOf 8 = .ok (.getfield 69, 3) := by decide +kernel
theorem d_Fra_downOf_11 : decode b_Fra_downOf 11 = .ok (.i2l, 1) := by decide +kernel
theorem d_Fra_downOf_12 : decode b_Fra_downOf 12 = .ok (.aload_n 1, 1) := by decide +kernel
theorem d_Fra_downOf_13 : decode b_Fra_downOf 13 = .ok (.getfield 97, 3) := by decide +kernel
theorem d_Fra_downOf_16 : decode b_Fra_downOf 16 = .ok (.iconst 1, 1) := by decide +kernel
theorem d_Fra_downOf_17 : decode b_Fra_downOf 17 = .ok (.if_icmp .ne 11, 3) := by decide +kernel
theorem d_Fra_downOf_20 : decode b_Fra_downOf 20 = .ok (.aload_n 0, 1) := by decide +kernel
theorem d_Fra_downOf_21 : decode b_Fra_downOf 21 = .ok (.aload_n 1, 1) := by decide +kernel
theorem d_Fra_downOf_22 : decode b_Fra_downOf 22 = .ok (.invokevirtual 100, 3) := by decide +kernel
theorem d_Fra_downOf_25 : decode b_Fra_downOf 25 = .ok (.goto 8, 3) := by decide +kernel
theorem d_Fra_downOf_28 : decode b_Fra_downOf 28 = .ok (.aload_n 1, 1) := by decide +kernel
theorem d_Fra_downOf_29 : decode b_Fra_downOf 29 = .ok (.getfield 85, 3) := by decide +kernel
theorem d_Fra_downOf_32 : decode b_Fra_downOf 32 = .ok (.i2l, 1) := by decide +kernel
theorem d_Fra_downOf_33 : decode b_Fra_downOf 33 = .ok (.ladd, 1) := by decide +kernel
theorem d_Fra_downOf_34 : decode b_Fra_downOf 34 = .ok (.lreturn, 1) := by decide +kernel
theorem d_Fra_downOf_35 : decode b_Fra_downOf 35 = .ok (.aload_n 0, 1) := by decide +kernel
theorem d_Fra_downOf_36 : decode b_Fra_downOf 36 = .ok (.getfield 66, 3) := by decide +kernel
theorem d_Fra_downOf_39 : decode b_Fra_downOf 39 = .ok (.i2l, 1) := by decide +kernel
theorem d_Fra_downOf_40 : decode b_Fra_downOf 40 = .ok (.aload_n 1, 1) := by decide +kernel
theorem d_Fra_downOf_41 : decode b_Fra_downOf 41 = .ok (.getfield 97, 3) := by decide +kernel
theorem d_Fra_downOf_44 : decode b_Fra_downOf 44 = .ok (.iconst 1, 1) := by decide +kernel
theorem d_Fra_downOf_45 : decode b_Fra_downOf 45 = .ok (.if_icmp .ne 11, 3) := by decide +kernel
theorem d_Fra_downOf_48 : decode b_Fra_downOf 48 = .ok (.aload_n 0, 1) := by decide +kernel
theorem d_Fra_downOf_49 : decode b_Fra_downOf 49 = .ok (.aload_n 1, 1) := by decide +kernel
theorem d_Fra_downOf_50 : decode b_Fra_downOf 50 = .ok (.invokevirtual 91, 3) := by decide +kernel
theorem d_Fra_downOf_53 : decode b_Fra_downOf 53 = .ok (.goto 7, 3) := by decide +kernel
theorem d_Fra_downOf_56 : decode b_Fra_downOf 56 = .ok (.aload_n 1, 1) := by decide +kernel
theorem d_Fra_downOf_57 : decode b_Fra_downOf 57 = .ok (.getfield 94, 3) := by decide +kernel
theorem d_Fra_downOf_60 : decode b_Fra_downOf 60 = .ok (.i2l, 1) := by decide +kernel
theorem d_Fra_downOf_61 : decode b_Fra_downOf 61 = .ok (.ladd, 1) := by decide +kernel
theorem d_Fra_downOf_62 : decode b_Fra_downOf 62 = .ok (.lreturn, 1) := by decide +kernel
theorem d_Fra_behind_0 : decode b_Fra_behind 0 = .ok (.aload_n 0, 1) := by decide +kernel
theorem d_Fra_behind_1 : decode b_Fra_behind 1 = .ok (.getfield 47, 3) := by decide +kernel
theorem d_Fra_behind_4 : decode b_Fra_behind 4 = .ok (.ifCond .eq 23, 3) := by decide +kernel
theorem d_Fra_behind_7 : decode b_Fra_behind 7 = .ok (.aload_n 1, 1) := by decide +kernel
theorem d_Fra_behind_8 : decode b_Fra_behind 8 = .ok (.getfield 97, 3) := by decide +kernel
theorem d_Fra_behind_11 : decode b_Fra_behind 11 = .ok (.iconst 2, 1) := by decide +kernel
theorem d_Fra_behind_12 : decode b_Fra_behind 12 = .ok (.if_icmp .eq 15, 3) := by decide +kernel
theorem d_Fra_behind_15 : decode b_Fra_behind 15 = .ok (.aload_n 0, 1) := by decide +kernel
theorem d_Fra_behind_16 : decode b_Fra_behind 16 = .ok (.getfield 69, 3) := by decide +kernel
theorem d_Fra_behind_19 : decode b_Fra_behind 19 = .ok (.i2l, 1) := by decide +kernel
theorem d_Fra_behind_20 : decode b_Fra_behind 20 = .ok (.aload_n 0, 1) := by decide +kernel
theorem d_Fra_behind_21 : decode b_Fra_behind 21 = .ok (.aload_n 1, 1) := by decide +kernel
theorem d_Fra_behind_22 : decode b_Fra_behind 22 = .ok (.invokevirtual 100, 3) := by decide +kernel
theorem d_Fra_behind_25 : decode b_Fra_behind 25 = .ok (.ladd, 1) := by decide +kernel
theorem d_Fra_behind_26 : decode b_Fra_behind 26 = .ok (.lreturn, 1) := by decide +kernel
theorem d_Fra_behind_27 : decode b_Fra_behind 27 = .ok (.aload_n 0, 1) := by decide +kernel
theorem d_Fra_behind_28 : decode b_Fra_behind 28 = .ok (.getfield 69, 3) := by decide +kernel
theorem d_Fra_behind_31 : decode b_Fra_behind 31 = .ok (.i2l, 1) := by decide +kernel
theorem d_Fra_behind_32 : decode b_Fra_behind 32 = .ok (.aload_n 1, 1) := by decide +kernel
theorem d_Fra_behind_33 : decode b_Fra_behind 33 = .ok (.getfield 84, 3) := by decide +kernel
theorem d_Fra_behind_36 : decode b_Fra_behind 36 = .ok (.i2l, 1) := by decide +kernel
theorem d_Fra_behind_37 : decode b_Fra_behind 37 = .ok (.ladd, 1) := by decide +kernel
theorem d_Fra_behind_38 : decode b_Fra_behind 38 = .ok (.lreturn, 1) := by decide +kernel
theorem d_PgW_init_0 : decode b_PgW_init 0 = .ok (.aload_n 0, 1) := by decide +kernel
theorem d_PgW_init_1 : decode b_PgW_init 1 = .ok (.invokespecial 3, 3) := by decide +kernel
theorem d_PgW_init_4 : decode b_PgW_init 4 = .ok (.aload_n 0, 1) := by decide +kernel
theorem d_PgW_init_5 : decode b_PgW_init 5 = .ok (.new 9, 3) := by decide +kernel
theorem d_PgW_init_8 : decode b_PgW_init 8 = .ok (.dup, 1) := by decide +kernel
theorem d_PgW_init_9 : decode b_PgW_init 9 = .ok (.invokespecial 11, 3) := by decide +kernel
theorem d_PgW_init_12 : decode b_PgW_init 12 = .ok (.putfield 12, 3) := by decide +kernel
theorem d_PgW_init_15 : decode b_PgW_init 15 = .ok (.aload_n 0, 1) := by decide +kernel
theorem d_PgW_init_16 : decode b_PgW_init 16 = .ok (.new 18, 3) := by decide +kernel
theorem d_PgW_init_19 : decode b_PgW_init 19 = .ok (.dup, 1) := by decide +kernel
theorem d_PgW_init_20 : decode b_PgW_init 20 = .ok (.invokespecial 20, 3) := by decide +kernel
theorem d_PgW_init_23 : decode b_PgW_init 23 = .ok (.putfield 21, 3) := by decide +kernel
theorem d_PgW_init_26 : decode b_PgW_init 26 = .ok (.aload_n 0, 1) := by decide +kernel
theorem d_PgW_init_27 : decode b_PgW_init 27 = .ok (.new 25, 3) := by decide +kernel
theorem d_PgW_init_30 : decode b_PgW_init 30 = .ok (.dup, 1) := by decide +kernel
theorem d_PgW_init_31 : decode b_PgW_init 31 = .ok (.sipush 147, 3) := by decide +kernel
theorem d_PgW_init_34 : decode b_PgW_init 34 = .ok (.invokespecial 27, 3) := by decide +kernel
theorem d_PgW_init_37 : decode b_PgW_init 37 = .ok (.putfield 30, 3) := by decide +kernel
theorem d_PgW_init_40 : decode b_PgW_init 40 = .ok (.aload_n 0, 1) := by decide +kernel
theorem d_PgW_init_41 : decode b_PgW_init 41 = .ok (.new 25, 3) := by decide +kernel
theorem d_PgW_init_44 : decode b_PgW_init 44 = .ok (.dup, 1) := by decide +kernel
theorem d_PgW_init_45 : decode b_PgW_init 45 = .ok (.sipush 161, 3) := by decide +kernel
theorem d_PgW_init_48 : decode b_PgW_init 48 = .ok (.invokespecial 27, 3) := by decide +kernel
theorem d_PgW_init_51 : decode b_PgW_init 51 = .ok (.putfield 34, 3) := by decide +kernel
theorem d_PgW_init_54 : decode b_PgW_init 54 = .ok (.aload_n 0, 1) := by decide +kernel
theorem d_PgW_init_55 : decode b_PgW_init 55 = .ok (.new 37, 3) := by decide +kernel
theorem d_PgW_init_58 : decode b_PgW_init 58 = .ok (.dup, 1) := by decide +kernel
theorem d_PgW_init_59 : decode b_PgW_init 59 = .ok (.aconst_null, 1) := by decide +kernel
theorem d_PgW_init_60 : decode b_PgW_init 60 = .ok (.invokespecial 39, 3) := by decide +kernel
theorem d_PgW_init_63 : decode b_PgW_init 63 = .ok (.putfield 42, 3) := by decide +kernel
theorem d_PgW_init_66 : decode b_PgW_init 66 = .ok (.return_, 1) := by decide +kernel
theorem d_PgW_writeBox_0 : decode b_PgW_writeBox 0 = .ok (.aload_n 0, 1) := by decide +kernel
theorem d_PgW_writeBox_1 : decode b_PgW_writeBox 1 = .ok (.getfield 30, 3) := by decide +kernel
theorem d_PgW_writeBox_4 : decode b_PgW_writeBox 4 = .ok (.invokevirtual 46, 3) := by decide +kernel
theorem d_PgW_writeBox_7 : decode b_PgW_writeBox 7 = .ok (.aload_n 0, 1) := by decide +kernel
theorem d_PgW_writeBox_8 : decode b_PgW_writeBox 8 = .ok (.getfield 34, 3) := by decide +kernel
theorem d_PgW_writeBox_11 : decode b_PgW_writeBox 11 = .ok (.invokevirtual 46, 3) := by decide +kernel
theorem d_PgW_writeBox_14 : decode b_PgW_writeBox 14 = .ok (.aload_n 0, 1) := by decide +kernel
theorem d_PgW_writeBox_15 : decode b_PgW_writeBox 15 = .ok (.iconst (-1), 1) := by decide +kernel
theorem d_PgW_writeBox_16 : decode b_PgW_writeBox 16 = .ok (.putfield 49, 3) := by decide +kernel
theorem d_PgW_writeBox_19 : decode b_PgW_writeBox 19 = .ok (.aload_n 0, 1) := by decide +kernel
theorem d_PgW_writeBox_20 : decode b_PgW_writeBox 20 = .ok (.iconst 0, 1) := by decide +kernel
theorem d_PgW_writeBox_21 : decode b_PgW_writeBox 21 = .ok (.putfield 53, 3) := by decide +kernel
theorem d_PgW_writeBox_24 : decode b_PgW_writeBox 24 = .ok (.aload_n 0, 1) := by decide +kernel
theorem d_PgW_writeBox_25 : decode b_PgW_writeBox 25 = .ok (.iconst 0, 1) := by decide +kernel
theorem d_PgW_writeBox_26 : decode b_PgW_writeBox 26 = .ok (.putfield 56, 3) := by decide +kernel
theorem d_PgW_writeBox_29 : decode b_PgW_writeBox 29 = .ok (.aload_n 1, 1) := by decide +kernel
theorem d_PgW_writeBox_30 : decode b_PgW_writeBox 30 = .ok (.getfield 60, 3) := by decide +kernel
theorem d_PgW_writeBox_33 : decode b_PgW_writeBox 33 = .ok (.ifnonnull 5, 3) := by decide +kernel
theorem d_PgW_writeBox_36 : decode b_PgW_writeBox 36 = .ok (.iconst 1, 1) := by decide +kernel
theorem d_PgW_writeBox_37 : decode b_PgW_writeBox 37 = .ok (.ireturn, 1) := by decide +kernel
theorem d_PgW_writeBox_38 : decode b_PgW_writeBox 38 = .ok (.aload_n 0, 1) := by decide +kernel
theorem d_PgW_writeBox_39 : decode b_PgW_writeBox 39 = .ok (.iconst 0, 1) := by decide +kernel
theorem d_PgW_writeBox_40 : decode b_PgW_writeBox 40 = .ok (.aload_n 1, 1) := by decide +kernel
theorem d_PgW_writeBox_41 : decode b_PgW_writeBox 41 = .ok (.getfield 66, 3) := by decide +kernel
theorem d_PgW_writeBox_44 : decode b_PgW_writeBox 44 = .ok (.invokevirtual 69, 3) := by decide +kernel
theorem d_PgW_writeBox_47 : decode b_PgW_writeBox 47 = .ok (.aload_n 0, 1) := by decide +kernel
theorem d_PgW_writeBox_48 : decode b_PgW_writeBox 48 = .ok (.aload_n 0, 1) := by decide +kernel
theorem d_PgW_writeBox_49 : decode b_PgW_writeBox 49 = .ok (.getfield 42, 3) := by decide +kernel
theorem d_PgW_writeBox_52 : decode b_PgW_writeBox 52 = .ok (.aload_n 1, 1) := by decide +kernel
theorem d_PgW_writeBox_53 : decode b_PgW_writeBox 53 = .ok (.invokevirtual 73, 3) := by decide +kernel
theorem d_PgW_writeBox_56 : decode b_PgW_writeBox 56 = .ok (.astore_n 2, 1) := by decide +kernel
theorem d_PgW_writeBox_57 : decode b_PgW_writeBox 57 = .ok (.iconst 0, 1) := by decide +kernel
theorem d_PgW_writeBox_58 : decode b_PgW_writeBox 58 = .ok (.istore_n 3, 1) := by decide +kernel
theorem d_PgW_writeBox_59 : decode b_PgW_writeBox 59 = .ok (.iload_n 3, 1) := by decide +kernel
theorem d_PgW_writeBox_60 : decode b_PgW_writeBox 60 = .ok (.sipush 12000, 3) := by decide +kernel
theorem d_PgW_writeBox_63 : decode b_PgW_writeBox 63 = .ok (.if_icmp .ge 57, 3) := by decide +kernel
theorem d_PgW_writeBox_66 : decode b_PgW_writeBox 66 = .ok (.aload_n 2, 1) := by decide +kernel
theorem d_PgW_writeBox_67 : decode b_PgW_writeBox 67 = .ok (.ifnull 53, 3) := by decide +kernel
theorem d_PgW_writeBox_70 : decode b_PgW_writeBox 70 = .ok (.aload_n 0, 1) := by decide +kernel
theorem d_PgW_writeBox_71 : decode b_PgW_writeBox 71 = .ok (.getfield 56, 3) := by decide +kernel
theorem d_PgW_writeBox_74 : decode b_PgW_writeBox 74 = .ok (.ifCond .ne 46, 3) := by decide +kernel
theorem d_PgW_writeBox_77 : decode b_PgW_writeBox 77 = .ok (.aload_n 2, 1) := by decide +kernel
theorem d_PgW_writeBox_78 : decode b_PgW_writeBox 78 = .ok (.getfield 77, 3) := by decide +kernel
theorem d_PgW_writeBox_81 : decode b_PgW_writeBox 81 = .ok (.astore 4, 2) := by decide +kernel
theorem d_PgW_writeBox_83 : decode b_PgW_writeBox 83 = .ok (.aload 4, 2) := by decide +kernel
theorem d_PgW_writeBox_85 : decode b_PgW_writeBox 85 = .ok (.ifnonnull 12, 3) := by decide +kernel
theorem d_PgW_writeBox_88 : decode b_PgW_writeBox 88 = .ok (.aload_n 0, 1) := by decide +kernel
theorem d_PgW_writeBox_89 : decode b_PgW_writeBox 89 = .ok (.aload_n 2, 1) := by decide +kernel
theorem d_PgW_writeBox_90 : decode b_PgW_writeBox 90 = .ok (.invokevirtual 80, 3) := by decide +kernel
theorem d_PgW_writeBox_93 : decode b_PgW_writeBox 93 = .ok (.astore_n 2, 1) := by decide +kernel
theorem d_PgW_writeBox_94 : decode b_PgW_writeBox 94 = .ok (.goto 20, 3) := by decide +kernel
theorem d_PgW_writeBox_97 : decode b_PgW_writeBox 97 = .ok (.aload_n 2, 1) := by decide +kernel
theorem d_PgW_writeBox_98 : decode b_PgW_writeBox 98 = .ok (.aload 4, 2) := by decide +kernel
theorem d_PgW_writeBox_100 : decode b_PgW_writeBox 100 = .ok (.getfield 84, 3) := by decide +kernel
theorem d_PgW_writeBox_103 : decode b_PgW_writeBox 103 = .ok (.putfield 77, 3) := by decide +kernel
theorem d_PgW_writeBox_106 : decode b_PgW_writeBox 106 = .ok (.aload_n 0, 1) := by decide +kernel
theorem d_PgW_writeBox_107 : decode b_PgW_writeBox 107 = .ok (.aload_n 2, 1) := by decide +kernel
theorem d_PgW_writeBox_108 : decode b_PgW_writeBox 108 = .ok (.aload 4, 2) := by decide +kernel
theorem d_PgW_writeBox_110 : decode b_PgW_writeBox 110 = .ok (.invokevirtual 87, 3) := by decide +kernel
theorem d_PgW_writeBox_113 : decode b_PgW_writeBox 113 = .ok (.astore_n 2, 1) := by decide +kernel
theorem d_PgW_writeBox_114 : decode b_PgW_writeBox 114 = .ok (.iinc 3 1, 3) := by decide +kernel
theorem d_PgW_writeBox_117 : decode b_PgW_writeBox 117 = .ok (.goto (-58), 3) := by decide +kernel
theorem d_PgW_writeBox_120 : decode b_PgW_writeBox 120 = .ok (.aload_n 0, 1) := by decide +kernel
theorem d_PgW_writeBox_121 : decode b_PgW_writeBox 121 = .ok (.getfield 56, 3) := by decide +kernel
theorem d_PgW_writeBox_124 : decode b_PgW_writeBox 124 = .ok (.ifCond .ne 7, 3) := by decide +kernel
theorem d_PgW_writeBox_127 : decode b_PgW_writeBox 127 = .ok (.iconst 1, 1) := by decide +kernel
theorem d_PgW_writeBox_128 : decode b_PgW_writeBox 128 = .ok (.goto 4, 3) := by decide +kernel
theorem d_PgW_writeBox_131 : decode b_PgW_writeBox 131 = .ok (.iconst 0, 1) := by decide +kernel
theorem d_PgW_writeBox_132 : decode b_PgW_writeBox 132 = .ok (.ireturn, 1) := by decide +kernel
theorem d_PgW_writeItem_0 : decode b_PgW_writeItem 0 = .ok (.aload_n 1, 1) := by decide +kernel
theorem d_PgW_writeItem_1 : decode b_PgW_writeItem 1 = .ok (.aload_n 2, 1) := by decide +kernel
theorem d_PgW_writeItem_2 : decode b_PgW_writeItem 2 = .ok (.invokevirtual 91, 3) := by decide +kernel
theorem d_PgW_writeItem_5 : decode b_PgW_writeItem 5 = .ok (.lstore_n 3, 1) := by decide +kernel
theorem d_PgW_writeItem_6 : decode b_PgW_writeItem 6 = .ok (.aload_n 1, 1) := by decide +kernel
theorem d_PgW_writeItem_7 : decode b_PgW_writeItem 7 = .ok (.aload_n 2, 1) := by decide +kernel
theorem d_PgW_writeItem_8 : decode b_PgW_writeItem 8 = .ok (.invokevirtual 95, 3) := by decide +kernel
theorem d_PgW_writeItem_11 : decode b_PgW_writeItem 11 = .ok (.lstore 5, 2) := by decide +kernel
theorem d_PgW_writeItem_13 : decode b_PgW_writeItem 13 = .ok (.aload_n 1, 1) := by decide +kernel
theorem d_PgW_writeItem_14 : decode b_PgW_writeItem 14 = .ok (.aload_n 2, 1) := by decide +kernel
theorem d_PgW_writeItem_15 : decode b_PgW_writeItem 15 = .ok (.invokevirtual 98, 3) := by decide +kernel
theorem d_PgW_writeItem_18 : decode b_PgW_writeItem 18 = .ok (.lstore 7, 2) := by decide +kernel
theorem d_PgW_writeItem_20 : decode b_PgW_writeItem 20 = .ok (.lload_n 3, 1) := by decide +kernel
theorem d_PgW_writeItem_21 : decode b_PgW_writeItem 21 = .ok (.lload 5, 2) := by decide +kernel
theorem d_PgW_writeItem_23 : decode b_PgW_writeItem 23 = .ok (.lload 7, 2) := by decide +kernel
theorem d_PgW_writeItem_25 : decode b_PgW_writeItem 25 = .ok (.invokestatic 101, 3) := by decide +kernel
theorem d_PgW_writeItem_28 : decode b_PgW_writeItem 28 = .ok (.ifCond .eq 13, 3) := by decide +kernel
theorem d_PgW_writeItem_31 : decode b_PgW_writeItem 31 = .ok (.aload_n 1, 1) := by decide +kernel
theorem d_PgW_writeItem_32 : decode b_PgW_writeItem 32 = .ok (.aload_n 2, 1) := by decide +kernel
theorem d_PgW_writeItem_33 : decode b_PgW_writeItem 33 = .ok (.lload 5, 2) := by decide +kernel
theorem d_PgW_writeItem_35 : decode b_PgW_writeItem 35 = .ok (.invokestatic 105, 3) := by decide +kernel
theorem d_PgW_writeItem_38 : decode b_PgW_writeItem 38 = .ok (.ifCond .ne 10, 3) := by decide +kernel
theorem d_PgW_writeItem_41 : decode b_PgW_writeItem 41 = .ok (.aload_n 0, 1) := by decide +kernel
theorem d_PgW_writeItem_42 : decode b_PgW_writeItem 42 = .ok (.iconst 1, 1) := by decide +kernel
theorem d_PgW_writeItem_43 : decode b_PgW_writeItem 43 = .ok (.putfield 56, 3) := by decide +kernel
theorem d_PgW_writeItem_46 : decode b_PgW_writeItem 46 = .ok (.aload_n 1, 1) := by decide +kernel
theorem d_PgW_writeItem_47 : decode b_PgW_writeItem 47 = .ok (.areturn, 1) := by decide +kernel
theorem d_PgW_writeItem_48 : decode b_PgW_writeItem 48 = .ok (.aload_n 1, 1) := by decide +kernel
theorem d_PgW_writeItem_49 : decode b_PgW_writeItem 49 = .ok (.lload 7, 2) := by decide +kernel
theorem d_PgW_writeItem_51 : decode b_PgW_writeItem 51 = .ok (.l2i, 1) := by decide +kernel
theorem d_PgW_writeItem_52 : decode b_PgW_writeItem 52 = .ok (.putfield 109, 3) := by decide +kernel
theorem d_PgW_writeItem_55 : decode b_PgW_writeItem 55 = .ok (.aload_n 1, 1) := by decide +kernel
theorem d_PgW_writeItem_56 : decode b_PgW_writeItem 56 = .ok (.aload_n 2, 1) := by decide +kernel
theorem d_PgW_writeItem_57 : decode b_PgW_writeItem 57 = .ok (.invokestatic 112, 3) := by decide +kernel
theorem d_PgW_writeItem_60 : decode b_PgW_writeItem 60 = .ok (.ifCond .ne 5, 3) := by decide +kernel
theorem d_PgW_writeItem_63 : decode b_PgW_writeItem 63 = .ok (.aload_n 1, 1) := by decide +kernel
theorem d_PgW_writeItem_64 : decode b_PgW_writeItem 64 = .ok (.areturn, 1) := by decide +kernel
theorem d_PgW_writeItem_65 : decode b_PgW_writeItem 65 = .ok (.aload_n 0, 1) := by decide +kernel
theorem d_PgW_writeItem_66 : decode b_PgW_writeItem 66 = .ok (.lload_n 3, 1) := by decide +kernel
theorem d_PgW_writeItem_67 : decode b_PgW_writeItem 67 = .ok (.l2i, 1) := by decide +kernel
theorem d_PgW_writeItem_68 : decode b_PgW_writeItem 68 = .ok (.lload 5, 2) := by decide +kernel
theorem d_PgW_writeItem_70 : decode b_PgW_writeItem 70 = .ok (.l2i, 1) := by decide +kernel
theorem d_PgW_writeItem_71 : decode b_PgW_writeItem 71 = .ok (.invokevirtual 69, 3) := by decide +kernel
theorem d_PgW_writeItem_74 : decode b_PgW_writeItem 74 = .ok (.aload_n 2, 1) := by decide +kernel
theorem d_PgW_writeItem_75 : decode b_PgW_writeItem 75 = .ok (.getfield 116, 3) := by decide +kernel
theorem d_PgW_writeItem_78 : decode b_PgW_writeItem 78 = .ok (.ifnull 16, 3) := by decide +kernel
theorem d_PgW_writeItem_81 : decode b_PgW_writeItem 81 = .ok (.aload_n 0, 1) := by decide +kernel
theorem d_PgW_writeItem_82 : decode b_PgW_writeItem 82 = .ok (.aload_n 1, 1) := by decide +kernel
theorem d_PgW_writeItem_83 : decode b_PgW_writeItem 83 = .ok (.invokevirtual 120, 3) := by decide +kernel
theorem d_PgW_writeItem_86 : decode b_PgW_writeItem 86 = .ok (.aload_n 2, 1) := by decide +kernel
theorem d_PgW_writeItem_87 : decode b_PgW_writeItem 87 = .ok (.getfield 116, 3) := by decide +kernel
theorem d_PgW_writeItem_90 : decode b_PgW_writeItem 90 = .ok (.invokevirtual 73, 3) := by decide +kernel
theorem d_PgW_writeItem_93 : decode b_PgW_writeItem 93 = .ok (.areturn, 1) := by decide +kernel
theorem d_PgW_writeItem_94 : decode b_PgW_writeItem 94 = .ok (.aload_n 2, 1) := by decide +kernel
theorem d_PgW_writeItem_95 : decode b_PgW_writeItem 95 = .ok (.getfield 124, 3) := by decide +kernel
theorem d_PgW_writeItem_98 : decode b_PgW_writeItem 98 = .ok (.iconst 1, 1) := by decide +kernel
theorem d_PgW_writeItem_99 : decode b_PgW_writeItem 99 = .ok (.if_icmp .ne 12, 3) := by decide +kernel
theorem d_PgW_writeItem_102 : decode b_PgW_writeItem 102 = .ok (.aload_n 0, 1) := by decide +kernel
theorem d_PgW_writeItem_103 : decode b_PgW_writeItem 103 = .ok (.aload_n 1, 1) := by decide +kernel
theorem d_PgW_writeItem_104 : decode b_PgW_writeItem 104 = .ok (.aload_n 2, 1) := by decide +kernel
theorem d_PgW_writeItem_105 : decode b_PgW_writeItem 105 = .ok (.invokevirtual 127, 3) := by decide +kernel
theorem d_PgW_writeItem_108 : decode b_PgW_writeItem 108 = .ok (.goto 8, 3) := by decide +kernel
theorem d_PgW_writeItem_111 : decode b_PgW_writeItem 111 = .ok (.aload_n 0, 1) := by decide +kernel
theorem d_PgW_writeItem_112 : decode b_PgW_writeItem 112 = .ok (.aload_n 2, 1) := by decide +kernel
theorem d_PgW_writeItem_113 : decode b_PgW_writeItem 113 = .ok (.invokevirtual 131, 3) := by decide +kernel
theorem d_PgW_writeItem_116 : decode b_PgW_writeItem 116 = .ok (.aload_n 1, 1) := by decide +kernel
theorem d_PgW_writeItem_117 : decode b_PgW_writeItem 117 = .ok (.areturn, 1) := by decide +kernel
theorem d_PgW_canStand_0 : decode b_PgW_canStand 0 = .ok (.aload_n 1, 1) := by decide +kernel
theorem d_PgW_canStand_1 : decode b_PgW_canStand 1 = .ok (.getfield 124, 3) := by decide +kernel
theorem d_PgW_canStand_4 : decode b_PgW_canStand 4 = .ok (.iconst 1, 1) := by decide +kernel
theorem d_PgW_canStand_5 : decode b_PgW_canStand 5 = .ok (.if_icmp .ne 12, 3) := by decide +kernel
theorem d_PgW_canStand_8 : decode b_PgW_canStand 8 = .ok (.aload_n 0, 1) := by decide +kernel
theorem d_PgW_canStand_9 : decode b_PgW_canStand 9 = .ok (.aload_n 1, 1) := by decide +kernel
theorem d_PgW_canStand_10 : decode b_PgW_canStand 10 = .ok (.invokevirtual 135, 3) := by decide +kernel
theorem d_PgW_canStand_13 : decode b_PgW_canStand 13 = .ok (.invokestatic 138, 3) := by decide +kernel
theorem d_PgW_canStand_16 : decode b_PgW_canStand 16 = .ok (.ireturn, 1) := by decide +kernel
theorem d_PgW_canStand_17 : decode b_PgW_canStand 17 = .ok (.aload_n 1, 1) := by decide +kernel
theorem d_PgW_canStand_18 : decode b_PgW_canStand 18 = .ok (.getfield 116, 3) := by decide +kernel
theorem d_PgW_canStand_21 : decode b_PgW_canStand 21 = .ok (.ifnull 29, 3) := by decide +kernel
theorem d_PgW_canStand_24 : decode b_PgW_canStand 24 = .ok (.aload_n 1, 1) := by decide +kernel
theorem d_PgW_canStand_25 : decode b_PgW_canStand 25 = .ok (.getfield 116, 3) := by decide +kernel
theorem d_PgW_canStand_28 : decode b_PgW_canStand 28 = .ok (.getfield 142, 3) := by decide +kernel
theorem d_PgW_canStand_31 : decode b_PgW_canStand 31 = .ok (.ifCond .eq 19, 3) := by decide +kernel
theorem d_PgW_canStand_34 : decode b_PgW_canStand 34 = .ok (.lload_n 2, 1) := by decide +kernel
theorem d_PgW_canStand_35 : decode b_PgW_canStand 35 = .ok (.aload_n 1, 1) := by decide +kernel
theorem d_PgW_canStand_36 : decode b_PgW_canStand 36 = .ok (.getfield 116, 3) := by decide +kernel
theorem d_PgW_canStand_39 : decode b_PgW_canStand 39 = .ok (.getfield 66, 3) := by decide +kernel
theorem d_PgW_canStand_42 : decode b_PgW_canStand 42 = .ok (.i2l, 1) := by decide +kernel
theorem d_PgW_canStand_43 : decode b_PgW_canStand 43 = .ok (.lsub, 1) := by decide +kernel
theorem d_PgW_canStand_44 : decode b_PgW_canStand 44 = .ok (.invokestatic 138, 3) := by decide +kernel
theorem d_PgW_canStand_47 : decode b_PgW_canStand 47 = .ok (.ifCond .eq 7, 3) := by decide +kernel
theorem d_PgW_canStand_50 : decode b_PgW_canStand 50 = .ok (.iconst 1, 1) := by decide +kernel
theorem d_PgW_canStand_51 : decode b_PgW_canStand 51 = .ok (.goto 4, 3) := by decide +kernel
theorem d_PgW_canStand_54 : decode b_PgW_canStand 54 = .ok (.iconst 0, 1) := by decide +kernel
theorem d_PgW_canStand_55 : decode b_PgW_canStand 55 = .ok (.ireturn, 1) := by decide +kernel
theorem d_PgW_isWritten_0 : decode b_PgW_isWritten 0 = .ok (.aload_n 1, 1) := by decide +kernel
theorem d_PgW_isWritten_1 : decode b_PgW_isWritten 1 = .ok (.getfield 124, 3) := by decide +kernel
theorem d_PgW_isWritten_4 : decode b_PgW_isWritten 4 = .ok (.tableswitch 81 0 3 #[32, 34, 81, 58], 32) := by decide +kernel
theorem d_PgW_isWritten_36 : decode b_PgW_isWritten 36 = .ok (.iconst 1, 1) := by decide +kernel
theorem d_PgW_isWritten_37 : decode b_PgW_isWritten 37 = .ok (.ireturn, 1) := by decide +kernel
theorem d_PgW_isWritten_38 : decode b_PgW_isWritten 38 = .ok (.aload_n 0, 1) := by decide +kernel
theorem d_PgW_isWritten_39 : decode b_PgW_isWritten 39 = .ok (.aload_n 1, 1) := by decide +kernel
theorem d_PgW_isWritten_40 : decode b_PgW_isWritten 40 = .ok (.invokevirtual 135, 3) := by decide +kernel
theorem d_PgW_isWritten_43 : decode b_PgW_isWritten 43 = .ok (.lconst 0, 1) := by decide +kernel
theorem d_PgW_isWritten_44 : decode b_PgW_isWritten 44 = .ok (.lcmp, 1) := by decide +kernel
theorem d_PgW_isWritten_45 : decode b_PgW_isWritten 45 = .ok (.ifCond .le 15, 3) := by decide +kernel
theorem d_PgW_isWritten_48 : decode b_PgW_isWritten 48 = .ok (.aload_n 0, 1) := by decide +kernel
theorem d_PgW_isWritten_49 : decode b_PgW_isWritten 49 = .ok (.aload_n 1, 1) := by decide +kernel
theorem d_PgW_isWritten_50 : decode b_PgW_isWritten 50 = .ok (.invokevirtual 145, 3) := by decide +kernel
theorem d_PgW_isWritten_53 : decode b_PgW_isWritten 53 = .ok (.ifCond .le 7, 3) := by decide +kernel
theorem d_PgW_isWritten_56 : decode b_PgW_isWritten 56 = .ok (.iconst 1, 1) := by decide +kernel
theorem d_PgW_isWritten_57 : decode b_PgW_isWritten 57 = .ok (.goto 4, 3) := by decide +kernel
theorem d_PgW_isWritten_60 : decode b_PgW_isWritten 60 = .ok (.iconst 0, 1) := by decide +kernel
theorem d_PgW_isWritten_61 : decode b_PgW_isWritten 61 = .ok (.ireturn, 1) := by decide +kernel
theorem d_PgW_isWritten_62 : decode b_PgW_isWritten 62 = .ok (.aload_n 1, 1) := by decide +kernel
theorem d_PgW_isWritten_63 : decode b_PgW_isWritten 63 = .ok (.getfield 116, 3) := by decide +kernel
theorem d_PgW_isWritten_66 : decode b_PgW_isWritten 66 = .ok (.ifnull 17, 3) := by decide +kernel
theorem d_PgW_isWritten_69 : decode b_PgW_isWritten 69 = .ok (.aload_n 1, 1) := by decide +kernel
theorem d_PgW_isWritten_70 : decode b_PgW_isWritten 70 = .ok (.getfield 116, 3) := by decide +kernel
theorem d_PgW_isWritten_73 : decode b_PgW_isWritten 73 = .ok (.getfield 60, 3) := by decide +kernel
theorem d_PgW_isWritten_76 : decode b_PgW_isWritten 76 = .ok (.ifnull 7, 3) := by decide +kernel
theorem d_PgW_isWritten_79 : decode b_PgW_isWritten 79 = .ok (.iconst 1, 1) := by decide +kernel
theorem d_PgW_isWritten_80 : decode b_PgW_isWritten 80 = .ok (.goto 4, 3) := by decide +kernel
theorem d_PgW_isWritten_83 : decode b_PgW_isWritten 83 = .ok (.iconst 0, 1) := by decide +kernel
theorem d_PgW_isWritten_84 : decode b_PgW_isWritten 84 = .ok (.ireturn, 1) := by decide +kernel
theorem d_PgW_isWritten_85 : decode b_PgW_isWritten 85 = .ok (.iconst 0, 1) := by decide +kernel
theorem d_PgW_isWritten_86 : decode b_PgW_isWritten 86 = .ok (.ireturn, 1) := by decide +kernel
theorem d_PgW_moveTo_0 : decode b_PgW_moveTo 0 = .ok (.aload_n 0, 1) := by decide +kernel
theorem d_PgW_moveTo_1 : decode b_PgW_moveTo 1 = .ok (.getfield 30, 3) := by decide +kernel
theorem d_PgW_moveTo_4 : decode b_PgW_moveTo 4 = .ok (.iload_n 1, 1) := by decide +kernel
theorem d_PgW_moveTo_5 : decode b_PgW_moveTo 5 = .ok (.aload_n 0, 1) := by decide +kernel
theorem d_PgW_moveTo_6 : decode b_PgW_moveTo 6 = .ok (.getfield 12, 3) := by decide +kernel
theorem d_PgW_moveTo_9 : decode b_PgW_moveTo 9 = .ok (.invokevirtual 149, 3) := by decide +kernel
theorem d_PgW_moveTo_12 : decode b_PgW_moveTo 12 = .ok (.ifCond .eq 18, 3) := by decide +kernel
theorem d_PgW_moveTo_15 : decode b_PgW_moveTo 15 = .ok (.aload_n 0, 1) := by decide +kernel
theorem d_PgW_moveTo_16 : decode b_PgW_moveTo 16 = .ok (.getfield 34, 3) := by decide +kernel
theorem d_PgW_moveTo_19 : decode b_PgW_moveTo 19 = .ok (.iload_n 2, 1) := by decide +kernel
theorem d_PgW_moveTo_20 : decode b_PgW_moveTo 20 = .ok (.aload_n 0, 1) := by decide +kernel
theorem d_PgW_moveTo_21 : decode b_PgW_moveTo 21 = .ok (.getfield 12, 3) := by decide +kernel
theorem d_PgW_moveTo_24 : decode b_PgW_moveTo 24 = .ok (.invokevirtual 149, 3) := by decide +kernel
theorem d_PgW_moveTo_27 : decode b_PgW_moveTo 27 = .ok (.ifCond .ne 8, 3) := by decide +kernel
theorem d_PgW_moveTo_30 : decode b_PgW_moveTo 30 = .ok (.aload_n 0, 1) := by decide +kernel
theorem d_PgW_moveTo_31 : decode b_PgW_moveTo 31 = .ok (.iconst 1, 1) := by decide +kernel
theorem d_PgW_moveTo_32 : decode b_PgW_moveTo 32 = .ok (.putfield 56, 3) := by decide +kernel
theorem d_PgW_moveTo_35 : decode b_PgW_moveTo 35 = .ok (.return_, 1) := by decide +kernel
theorem d_PgW_writeCharacter_0 : decode b_PgW_writeCharacter 0 = .ok (.aload_n 0, 1) := by decide +kernel
theorem d_PgW_writeCharacter_1 : decode b_PgW_writeCharacter 1 = .ok (.getfield 21, 3) := by decide +kernel
theorem d_PgW_writeCharacter_4 : decode b_PgW_writeCharacter 4 = .ok (.aload_n 1, 1) := by decide +kernel
theorem d_PgW_writeCharacter_5 : decode b_PgW_writeCharacter 5 = .ok (.getfield 153, 3) := by decide +kernel
theorem d_PgW_writeCharacter_8 : decode b_PgW_writeCharacter 8 = .ok (.invokevirtual 156, 3) := by decide +kernel
theorem d_PgW_writeCharacter_11 : decode b_PgW_writeCharacter 11 = .ok (.ifCond .ne 18, 3) := by decide +kernel
theorem d_PgW_writeCharacter_14 : decode b_PgW_writeCharacter 14 = .ok (.aload_n 0, 1) := by decide +kernel
theorem d_PgW_writeCharacter_15 : decode b_PgW_writeCharacter 15 = .ok (.getfield 21, 3) := by decide +kernel
theorem d_PgW_writeCharacter_18 : decode b_PgW_writeCharacter 18 = .ok (.aload_n 1, 1) := by decide +kernel
theorem d_PgW_writeCharacter_19 : decode b_PgW_writeCharacter 19 = .ok (.getfield 153, 3) := by decide +kernel
theorem d_PgW_writeCharacter_22 : decode b_PgW_writeCharacter 22 = .ok (.aload_n 0, 1) := by decide +kernel
theorem d_PgW_writeCharacter_23 : decode b_PgW_writeCharacter 23 = .ok (.getfield 12, 3) := by decide +kernel
theorem d_PgW_writeCharacter_26 : decode b_PgW_writeCharacter 26 = .ok (.invokevirtual 160, 3) := by decide +kernel
theorem d_PgW_writeCharacter_29 : decode b_PgW_writeCharacter 29 = .ok (.aload_n 1, 1) := by decide +kernel
theorem d_PgW_writeCharacter_30 : decode b_PgW_writeCharacter 30 = .ok (.getfield 153, 3) := by decide +kernel
theorem d_PgW_writeCharacter_33 : decode b_PgW_writeCharacter 33 = .ok (.aload_n 0, 1) := by decide +kernel
theorem d_PgW_writeCharacter_34 : decode b_PgW_writeCharacter 34 = .ok (.getfield 49, 3) := by decide +kernel
theorem d_PgW_writeCharacter_37 : decode b_PgW_writeCharacter 37 = .ok (.if_icmp .eq 27, 3) := by decide +kernel
theorem d_PgW_writeCharacter_40 : decode b_PgW_writeCharacter 40 = .ok (.aload_n 0, 1) := by decide +kernel
theorem d_PgW_writeCharacter_41 : decode b_PgW_writeCharacter 41 = .ok (.getfield 12, 3) := by decide +kernel
theorem d_PgW_writeCharacter_44 : decode b_PgW_writeCharacter 44 = .ok (.sipush 171, 3) := by decide +kernel
theorem d_PgW_writeCharacter_47 : decode b_PgW_writeCharacter 47 = .ok (.aload_n 1, 1) := by decide +kernel
theorem d_PgW_writeCharacter_48 : decode b_PgW_writeCharacter 48 = .ok (.getfield 153, 3) := by decide +kernel
theorem d_PgW_writeCharacter_51 : decode b_PgW_writeCharacter 51 = .ok (.iadd, 1) := by decide +kernel
theorem d_PgW_writeCharacter_52 : decode b_PgW_writeCharacter 52 = .ok (.iconst 1, 1) := by decide +kernel
theorem d_PgW_writeCharacter_53 : decode b_PgW_writeCharacter 53 = .ok (.invokevirtual 164, 3) := by decide +kernel
theorem d_PgW_writeCharacter_56 : decode b_PgW_writeCharacter 56 = .ok (.aload_n 0, 1) := by decide +kernel
theorem d_PgW_writeCharacter_57 : decode b_PgW_writeCharacter 57 = .ok (.aload_n 1, 1) := by decide +kernel
theorem d_PgW_writeCharacter_58 : decode b_PgW_writeCharacter 58 = .ok (.getfield 153, 3) := by decide +kernel
theorem d_PgW_writeCharacter_61 : decode b_PgW_writeCharacter 61 = .ok (.putfield 49, 3) := by decide +kernel
theorem d_PgW_writeCharacter_64 : decode b_PgW_writeCharacter 64 = .ok (.aload_n 1, 1) := by decide +kernel
theorem d_PgW_writeCharacter_65 : decode b_PgW_writeCharacter 65 = .ok (.getfield 167, 3) := by decide +kernel
theorem d_PgW_writeCharacter_68 : decode b_PgW_writeCharacter 68 = .ok (.sipush 128, 3) := by decide +kernel
theorem d_PgW_writeCharacter_71 : decode b_PgW_writeCharacter 71 = .ok (.if_icmp .lt 14, 3) := by decide +kernel
theorem d_PgW_writeCharacter_74 : decode b_PgW_writeCharacter 74 = .ok (.aload_n 0, 1) := by decide +kernel
theorem d_PgW_writeCharacter_75 : decode b_PgW_writeCharacter 75 = .ok (.getfield 12, 3) := by decide +kernel
theorem d_PgW_writeCharacter_78 : decode b_PgW_writeCharacter 78 = .ok (.sipush 128, 3) := by decide +kernel
theorem d_PgW_writeCharacter_81 : decode b_PgW_writeCharacter 81 = .ok (.iconst 1, 1) := by decide +kernel
theorem d_PgW_writeCharacter_82 : decode b_PgW_writeCharacter 82 = .ok (.invokevirtual 164, 3) := by decide +kernel
theorem d_PgW_writeCharacter_85 : decode b_PgW_writeCharacter 85 = .ok (.aload_n 0, 1) := by decide +kernel
theorem d_PgW_writeCharacter_86 : decode b_PgW_writeCharacter 86 = .ok (.getfield 12, 3) := by decide +kernel
theorem d_PgW_writeCharacter_89 : decode b_PgW_writeCharacter 89 = .ok (.aload_n 1, 1) := by decide +kernel
theorem d_PgW_writeCharacter_90 : decode b_PgW_writeCharacter 90 = .ok (.getfield 167, 3) := by decide +kernel
theorem d_PgW_writeCharacter_93 : decode b_PgW_writeCharacter 93 = .ok (.iconst 1, 1) := by decide +kernel
theorem d_PgW_writeCharacter_94 : decode b_PgW_writeCharacter 94 = .ok (.invokevirtual 164, 3) := by decide +kernel
theorem d_PgW_writeCharacter_97 : decode b_PgW_writeCharacter 97 = .ok (.aload_n 0, 1) := by decide +kernel
theorem d_PgW_writeCharacter_98 : decode b_PgW_writeCharacter 98 = .ok (.getfield 30, 3) := by decide +kernel
theorem d_PgW_writeCharacter_101 : decode b_PgW_writeCharacter 101 = .ok (.dup, 1) := by decide +kernel
theorem d_PgW_writeCharacter_102 : decode b_PgW_writeCharacter 102 = .ok (.getfield 170, 3) := by decide +kernel
theorem d_PgW_writeCharacter_105 : decode b_PgW_writeCharacter 105 = .ok (.aload_n 1, 1) := by decide +kernel
theorem d_PgW_writeCharacter_106 : decode b_PgW_writeCharacter 106 = .ok (.getfield 173, 3) := by decide +kernel
theorem d_PgW_writeCharacter_109 : decode b_PgW_writeCharacter 109 = .ok (.iadd, 1) := by decide +kernel
theorem d_PgW_writeCharacter_110 : decode b_PgW_writeCharacter 110 = .ok (.putfield 170, 3) := by decide +kernel
theorem d_PgW_writeCharacter_113 : decode b_PgW_writeCharacter 113 = .ok (.return_, 1) := by decide +kernel
theorem d_PgW_writeRule_0 : decode b_PgW_writeRule 0 = .ok (.aload_n 0, 1) := by decide +kernel
theorem d_PgW_writeRule_1 : decode b_PgW_writeRule 1 = .ok (.getfield 12, 3) := by decide +kernel
theorem d_PgW_writeRule_4 : decode b_PgW_writeRule 4 = .ok (.aload_n 1, 1) := by decide +kernel
theorem d_PgW_writeRule_5 : decode b_PgW_writeRule 5 = .ok (.getfield 176, 3) := by decide +kernel
theorem d_PgW_writeRule_8 : decode b_PgW_writeRule 8 = .ok (.ifCond .eq 9, 3) := by decide +kernel
theorem d_PgW_writeRule_11 : decode b_PgW_writeRule 11 = .ok (.sipush 137, 3) := by decide +kernel
theorem d_PgW_writeRule_14 : decode b_PgW_writeRule 14 = .ok (.goto 6, 3) := by decide +kernel
theorem d_PgW_writeRule_17 : decode b_PgW_writeRule 17 = .ok (.sipush 132, 3) := by decide +kernel
theorem d_PgW_writeRule_20 : decode b_PgW_writeRule 20 = .ok (.iconst 1, 1) := by decide +kernel
theorem d_PgW_writeRule_21 : decode b_PgW_writeRule 21 = .ok (.invokevirtual 164, 3) := by decide +kernel
theorem d_PgW_writeRule_24 : decode b_PgW_writeRule 24 = .ok (.aload_n 0, 1) := by decide +kernel
theorem d_PgW_writeRule_25 : decode b_PgW_writeRule 25 = .ok (.getfield 12, 3) := by decide +kernel
theorem d_PgW_writeRule_28 : decode b_PgW_writeRule 28 = .ok (.aload_n 1, 1) := by decide +kernel
theorem d_PgW_writeRule_29 : decode b_PgW_writeRule 29 = .ok (.aload_n 2, 1) := by decide +kernel
theorem d_PgW_writeRule_30 : decode b_PgW_writeRule 30 = .ok (.invokevirtual 135, 3) := by decide +kernel
theorem d_PgW_writeRule_33 : decode b_PgW_writeRule 33 = .ok (.l2i, 1) := by decide +kernel
theorem d_PgW_writeRule_34 : decode b_PgW_writeRule 34 = .ok (.iconst 4, 1) := by decide +kernel
theorem d_PgW_writeRule_35 : decode b_PgW_writeRule 35 = .ok (.invokevirtual 164, 3) := by decide +kernel
theorem d_PgW_writeRule_38 : decode b_PgW_writeRule 38 = .ok (.aload_n 0, 1) := by decide +kernel
theorem d_PgW_writeRule_39 : decode b_PgW_writeRule 39 = .ok (.getfield 12, 3) := by decide +kernel
theorem d_PgW_writeRule_42 : decode b_PgW_writeRule 42 = .ok (.aload_n 1, 1) := by decide +kernel
theorem d_PgW_writeRule_43 : decode b_PgW_writeRule 43 = .ok (.aload_n 2, 1) := by decide +kernel
theorem d_PgW_writeRule_44 : decode b_PgW_writeRule 44 = .ok (.invokevirtual 145, 3) := by decide +kernel
theorem d_PgW_writeRule_47 : decode b_PgW_writeRule 47 = .ok (.iconst 4, 1) := by decide +kernel
theorem d_PgW_writeRule_48 : decode b_PgW_writeRule 48 = .ok (.invokevirtual 164, 3) := by decide +kernel
theorem d_PgW_writeRule_51 : decode b_PgW_writeRule 51 = .ok (.aload_n 1, 1) := by decide +kernel
theorem d_PgW_writeRule_52 : decode b_PgW_writeRule 52 = .ok (.getfield 176, 3) := by decide +kernel
theorem d_PgW_writeRule_55 : decode b_PgW_writeRule 55 = .ok (.ifCond .ne 19, 3) := by decide +kernel
theorem d_PgW_writeRule_58 : decode b_PgW_writeRule 58 = .ok (.aload_n 0, 1) := by decide +kernel
theorem d_PgW_writeRule_59 : decode b_PgW_writeRule 59 = .ok (.getfield 30, 3) := by decide +kernel
theorem d_PgW_writeRule_62 : decode b_PgW_writeRule 62 = .ok (.dup, 1) := by decide +kernel
theorem d_PgW_writeRule_63 : decode b_PgW_writeRule 63 = .ok (.getfield 170, 3) := by decide +kernel
theorem d_PgW_writeRule_66 : decode b_PgW_writeRule 66 = .ok (.aload_n 2, 1) := by decide +kernel
theorem d_PgW_writeRule_67 : decode b_PgW_writeRule 67 = .ok (.getfield 173, 3) := by decide +kernel
theorem d_PgW_writeRule_70 : decode b_PgW_writeRule 70 = .ok (.iadd, 1) := by decide +kernel
theorem d_PgW_writeRule_71 : decode b_PgW_writeRule 71 = .ok (.putfield 170, 3) := by decide +kernel
theorem d_PgW_writeRule_74 : decode b_PgW_writeRule 74 = .ok (.return_, 1) := by decide +kernel
theorem d_PgW_enter_0 : decode b_PgW_enter 0 = .ok (.aload_n 0, 1) := by decide +kernel
theorem d_PgW_enter_1 : decode b_PgW_enter 1 = .ok (.getfield 12, 3) := by decide +kernel
theorem d_PgW_enter_4 : decode b_PgW_enter 4 = .ok (.sipush 141, 3) := by decide +kernel
theorem d_PgW_enter_7 : decode b_PgW_enter 7 = .ok (.iconst 1, 1) := by decide +kernel
theorem d_PgW_enter_8 : decode b_PgW_enter 8 = .ok (.invokevirtual 164, 3) := by decide +kernel
theorem d_PgW_enter_11 : decode b_PgW_enter 11 = .ok (.aload_n 1, 1) := by decide +kernel
theorem d_PgW_enter_12 : decode b_PgW_enter 12 = .ok (.aload_n 2, 1) := by decide +kernel
theorem d_PgW_enter_13 : decode b_PgW_enter 13 = .ok (.aload_n 0, 1) := by decide +kernel
theorem d_PgW_enter_14 : decode b_PgW_enter 14 = .ok (.getfield 30, 3) := by decide +kernel
theorem d_PgW_enter_17 : decode b_PgW_enter 17 = .ok (.aload_n 0, 1) := by decide +kernel
theorem d_PgW_enter_18 : decode b_PgW_enter 18 = .ok (.getfield 34, 3) := by decide +kernel
theorem d_PgW_enter_21 : decode b_PgW_enter 21 = .ok (.invokevirtual 177, 3) := by decide +kernel
theorem d_PgW_enter_24 : decode b_PgW_enter 24 = .ok (.aload_n 0, 1) := by decide +kernel
theorem d_PgW_enter_25 : decode b_PgW_enter 25 = .ok (.aload_n 0, 1) := by decide +kernel
theorem d_PgW_enter_26 : decode b_PgW_enter 26 = .ok (.getfield 53, 3) := by decide +kernel
theorem d_PgW_enter_29 : decode b_PgW_enter 29 = .ok (.aload_n 1, 1) := by decide +kernel
theorem d_PgW_enter_30 : decode b_PgW_enter 30 = .ok (.getfield 181, 3) := by decide +kernel
theorem d_PgW_enter_33 : decode b_PgW_enter 33 = .ok (.invokestatic 184, 3) := by decide +kernel
theorem d_PgW_enter_36 : decode b_PgW_enter 36 = .ok (.putfield 53, 3) := by decide +kernel
theorem d_PgW_enter_39 : decode b_PgW_enter 39 = .ok (.aload_n 1, 1) := by decide +kernel
theorem d_PgW_enter_40 : decode b_PgW_enter 40 = .ok (.areturn, 1) := by decide +kernel
theorem d_PgW_leave_0 : decode b_PgW_leave 0 = .ok (.aload_n 0, 1) := by decide +kernel
theorem d_PgW_leave_1 : decode b_PgW_leave 1 = .ok (.getfield 12, 3) := by decide +kernel
theorem d_PgW_leave_4 : decode b_PgW_leave 4 = .ok (.sipush 142, 3) := by decide +kernel
theorem d_PgW_leave_7 : decode b_PgW_leave 7 = .ok (.iconst 1, 1) := by decide +kernel
theorem d_PgW_leave_8 : decode b_PgW_leave 8 = .ok (.invokevirtual 164, 3) := by decide +kernel
theorem d_PgW_leave_11 : decode b_PgW_leave 11 = .ok (.aload_n 0, 1) := by decide +kernel
theorem d_PgW_leave_12 : decode b_PgW_leave 12 = .ok (.getfield 30, 3) := by decide +kernel
theorem d_PgW_leave_15 : decode b_PgW_leave 15 = .ok (.aload_n 1, 1) := by decide +kernel
theorem d_PgW_leave_16 : decode b_PgW_leave 16 = .ok (.getfield 190, 3) := by decide +kernel
theorem d_PgW_leave_19 : decode b_PgW_leave 19 = .ok (.invokevirtual 193, 3) := by decide +kernel
theorem d_PgW_leave_22 : decode b_PgW_leave 22 = .ok (.aload_n 0, 1) := by decide +kernel
theorem d_PgW_leave_23 : decode b_PgW_leave 23 = .ok (.getfield 34, 3) := by decide +kernel
theorem d_PgW_leave_26 : decode b_PgW_leave 26 = .ok (.aload_n 1, 1) := by decide +kernel
theorem d_PgW_leave_27 : decode b_PgW_leave 27 = .ok (.getfield 197, 3) := by decide +kernel
theorem d_PgW_leave_30 : decode b_PgW_leave 30 = .ok (.invokevirtual 193, 3) := by decide +kernel
theorem d_PgW_leave_33 : decode b_PgW_leave 33 = .ok (.aload_n 1, 1) := by decide +kernel
theorem d_PgW_leave_34 : decode b_PgW_leave 34 = .ok (.getfield 200, 3) := by decide +kernel
theorem d_PgW_leave_37 : decode b_PgW_leave 37 = .ok (.areturn, 1) := by decide +kernel
theorem d_PF_init_0 : decode b_PF_init 0 = .ok (.aload_n 0, 1) := by decide +kernel
theorem d_PF_init_1 : decode b_PF_init 1 = .ok (.invokespecial 3, 3) := by decide +kernel
theorem d_PF_init_4 : decode b_PF_init 4 = .ok (.aload_n 0, 1) := by decide +kernel
theorem d_PF_init_5 : decode b_PF_init 5 = .ok (.bipush 8, 2) := by decide +kernel
theorem d_PF_init_7 : decode b_PF_init 7 = .ok (.anewarray 9, 3) := by decide +kernel
theorem d_PF_init_10 : decode b_PF_init 10 = .ok (.putfield 11, 3) := by decide +kernel
theorem d_PF_init_13 : decode b_PF_init 13 = .ok (.aload_n 0, 1) := by decide +kernel
theorem d_PF_init_14 : decode b_PF_init 14 = .ok (.new 15, 3) := by decide +kernel
theorem d_PF_init_17 : decode b_PF_init 17 = .ok (.dup, 1) := by decide +kernel
theorem d_PF_init_18 : decode b_PF_init 18 = .ok (.invokespecial 17, 3) := by decide +kernel
theorem d_PF_init_21 : decode b_PF_init 21 = .ok (.putfield 18, 3) := by decide +kernel
theorem d_PF_init_24 : decode b_PF_init 24 = .ok (.aload_n 0, 1) := by decide +kernel
theorem d_PF_init_25 : decode b_PF_init 25 = .ok (.aload_n 0, 1) := by decide +kernel
theorem d_PF_init_26 : decode b_PF_init 26 = .ok (.getfield 18, 3) := by decide +kernel
theorem d_PF_init_29 : decode b_PF_init 29 = .ok (.getfield 22, 3) := by decide +kernel
theorem d_PF_init_32 : decode b_PF_init 32 = .ok (.putfield 26, 3) := by decide +kernel
theorem d_PF_init_35 : decode b_PF_init 35 = .ok (.aload_n 0, 1) := by decide +kernel
theorem d_PF_init_36 : decode b_PF_init 36 = .ok (.aload_n 0, 1) := by decide +kernel
theorem d_PF_init_37 : decode b_PF_init 37 = .ok (.getfield 18, 3) := by decide +kernel
theorem d_PF_init_40 : decode b_PF_init 40 = .ok (.getfield 27, 3) := by decide +kernel
theorem d_PF_init_43 : decode b_PF_init 43 = .ok (.putfield 31, 3) := by decide +kernel
theorem d_PF_init_46 : decode b_PF_init 46 = .ok (.aload_n 0, 1) := by decide +kernel
theorem d_PF_init_47 : decode b_PF_init 47 = .ok (.iconst (-1), 1) := by decide +kernel
theorem d_PF_init_48 : decode b_PF_init 48 = .ok (.putfield 32, 3) := by decide +kernel
theorem d_PF_init_51 : decode b_PF_init 51 = .ok (.return_, 1) := by decide +kernel
theorem d_PF_font_0 : decode b_PF_font 0 = .ok (.iload_n 1, 1) := by decide +kernel
theorem d_PF_font_1 : decode b_PF_font 1 = .ok (.invokestatic 36, 3) := by decide +kernel
theorem d_PF_font_4 : decode b_PF_font 4 = .ok (.ifCond .eq 11, 3) := by decide +kernel
theorem d_PF_font_7 : decode b_PF_font 7 = .ok (.iload_n 2, 1) := by decide +kernel
theorem d_PF_font_8 : decode b_PF_font 8 = .ok (.ifCond .lt 7, 3) := by decide +kernel
theorem d_PF_font_11 : decode b_PF_font 11 = .ok (.iload_n 3, 1) := by decide +kernel
theorem d_PF_font_12 : decode b_PF_font 12 = .ok (.ifCond .ge 5, 3) := by decide +kernel
theorem d_PF_font_15 : decode b_PF_font 15 = .ok (.iconst 0, 1) := by decide +kernel
theorem d_PF_font_16 : decode b_PF_font 16 = .ok (.ireturn, 1) := by decide +kernel
theorem d_PF_font_17 : decode b_PF_font 17 = .ok (.aload_n 0, 1) := by decide +kernel
theorem d_PF_font_18 : decode b_PF_font 18 = .ok (.getfield 31, 3) := by decide +kernel
theorem d_PF_font_21 : decode b_PF_font 21 = .ok (.iload_n 1, 1) := by decide +kernel
theorem d_PF_font_22 : decode b_PF_font 22 = .ok (.iload_n 2, 1) := by decide +kernel
theorem d_PF_font_23 : decode b_PF_font 23 = .ok (.iload_n 3, 1) := by decide +kernel
theorem d_PF_font_24 : decode b_PF_font 24 = .ok (.invokevirtual 40, 3) := by decide +kernel
theorem d_PF_font_27 : decode b_PF_font 27 = .ok (.iconst 1, 1) := by decide +kernel
theorem d_PF_font_28 : decode b_PF_font 28 = .ok (.ireturn, 1) := by decide +kernel
theorem d_PF_open_0 : decode b_PF_open 0 = .ok (.aload_n 0, 1) := by decide +kernel
theorem d_PF_open_1 : decode b_PF_open 1 = .ok (.getfield 46, 3) := by decide +kernel
theorem d_PF_open_4 : decode b_PF_open 4 = .ok (.ifnull 17, 3) := by decide +kernel
theorem d_PF_open_7 : decode b_PF_open 7 = .ok (.aload_n 0, 1) := by decide +kernel
theorem d_PF_open_8 : decode b_PF_open 8 = .ok (.getfield 46, 3) := by decide +kernel
theorem d_PF_open_11 : decode b_PF_open 11 = .ok (.getfield 50, 3) := by decide +kernel
theorem d_PF_open_14 : decode b_PF_open 14 = .ok (.bipush 100, 2) := by decide +kernel
theorem d_PF_open_16 : decode b_PF_open 16 = .ok (.if_icmp .lt 5, 3) := by decide +kernel
theorem d_PF_open_19 : decode b_PF_open 19 = .ok (.iconst 0, 1) := by decide +kernel
theorem d_PF_open_20 : decode b_PF_open 20 = .ok (.ireturn, 1) := by decide +kernel
theorem d_PF_open_21 : decode b_PF_open 21 = .ok (.aload_n 0, 1) := by decide +kernel
theorem d_PF_open_22 : decode b_PF_open 22 = .ok (.new 51, 3) := by decide +kernel
theorem d_PF_open_25 : decode b_PF_open 25 = .ok (.dup, 1) := by decide +kernel
theorem d_PF_open_26 : decode b_PF_open 26 = .ok (.iload_n 1, 1) := by decide +kernel
end
section
theorem d_PF_open_27 : decode b_PF_open 27 = .ok (.aload_n 0, 1) := by decide +kernel
theorem d_PF_open_28 : decode b_PF_open 28 = .ok (.getfield 46, 3) := by decide +kernel
theorem d_PF_open_31 : decode b_PF_open 31 = .ok (.invokespecial 55, 3) := by decide +kernel
theorem d_PF_open_34 : decode b_PF_open 34 = .ok (.putfield 46, 3) := by decide +kernel
theorem d_PF_open_37 : decode b_PF_open 37 = .ok (.iconst 1, 1) := by decide +kernel
theorem d_PF_open_38 : decode b_PF_open 38 = .ok (.ireturn, 1) := by decide +kernel
theorem d_PF_character_0 : decode b_PF_character 0 = .ok (.aload_n 0, 1) := by decide +kernel
theorem d_PF_character_1 : decode b_PF_character 1 = .ok (.getfield 46, 3) := by decide +kernel
theorem d_PF_character_4 : decode b_PF_character 4 = .ok (.ifnull 23, 3) := by decide +kernel
theorem d_PF_character_7 : decode b_PF_character 7 = .ok (.aload_n 0, 1) := by decide +kernel
theorem d_PF_character_8 : decode b_PF_character 8 = .ok (.getfield 46, 3) := by decide +kernel
theorem d_PF_character_11 : decode b_PF_character 11 = .ok (.getfield 58, 3) := by decide +kernel
theorem d_PF_character_14 : decode b_PF_character 14 = .ok (.ifCond .ne 13, 3) := by decide +kernel
theorem d_PF_character_17 : decode b_PF_character 17 = .ok (.aload_n 0, 1) := by decide +kernel
theorem d_PF_character_18 : decode b_PF_character 18 = .ok (.getfield 62, 3) := by decide +kernel
theorem d_PF_character_21 : decode b_PF_character 21 = .ok (.sipush 3000, 3) := by decide +kernel
theorem d_PF_character_24 : decode b_PF_character 24 = .ok (.if_icmp .lt 5, 3) := by decide +kernel
theorem d_PF_character_27 : decode b_PF_character 27 = .ok (.iconst 0, 1) := by decide +kernel
theorem d_PF_character_28 : decode b_PF_character 28 = .ok (.ireturn, 1) := by decide +kernel
theorem d_PF_character_29 : decode b_PF_character 29 = .ok (.iload_n 1, 1) := by decide +kernel
theorem d_PF_character_30 : decode b_PF_character 30 = .ok (.invokestatic 36, 3) := by decide +kernel
theorem d_PF_character_33 : decode b_PF_character 33 = .ok (.ifCond .eq 28, 3) := by decide +kernel
theorem d_PF_character_36 : decode b_PF_character 36 = .ok (.iload_n 2, 1) := by decide +kernel
theorem d_PF_character_37 : decode b_PF_character 37 = .ok (.ifCond .lt 24, 3) := by decide +kernel
theorem d_PF_character_40 : decode b_PF_character 40 = .ok (.iload_n 2, 1) := by decide +kernel
theorem d_PF_character_41 : decode b_PF_character 41 = .ok (.sipush 256, 3) := by decide +kernel
theorem d_PF_character_44 : decode b_PF_character 44 = .ok (.if_icmp .ge 17, 3) := by decide +kernel
theorem d_PF_character_47 : decode b_PF_character 47 = .ok (.iload_n 3, 1) := by decide +kernel
theorem d_PF_character_48 : decode b_PF_character 48 = .ok (.i2l, 1) := by decide +kernel
theorem d_PF_character_49 : decode b_PF_character 49 = .ok (.iload 4, 2) := by decide +kernel
theorem d_PF_character_51 : decode b_PF_character 51 = .ok (.i2l, 1) := by decide +kernel
theorem d_PF_character_52 : decode b_PF_character 52 = .ok (.iload 5, 2) := by decide +kernel
theorem d_PF_character_54 : decode b_PF_character 54 = .ok (.i2l, 1) := by decide +kernel
theorem d_PF_character_55 : decode b_PF_character 55 = .ok (.invokestatic 65, 3) := by decide +kernel
theorem d_PF_character_58 : decode b_PF_character 58 = .ok (.ifCond .ne 5, 3) := by decide +kernel
theorem d_PF_character_61 : decode b_PF_character 61 = .ok (.iconst 0, 1) := by decide +kernel
theorem d_PF_character_62 : decode b_PF_character 62 = .ok (.ireturn, 1) := by decide +kernel
theorem d_PF_character_63 : decode b_PF_character 63 = .ok (.new 69, 3) := by decide +kernel
theorem d_PF_character_66 : decode b_PF_character 66 = .ok (.dup, 1) := by decide +kernel
theorem d_PF_character_67 : decode b_PF_character 67 = .ok (.iconst 0, 1) := by decide +kernel
theorem d_PF_character_68 : decode b_PF_character 68 = .ok (.iload_n 3, 1) := by decide +kernel
theorem d_PF_character_69 : decode b_PF_character 69 = .ok (.iload 4, 2) := by decide +kernel
theorem d_PF_character_71 : decode b_PF_character 71 = .ok (.iload 5, 2) := by decide +kernel
theorem d_PF_character_73 : decode b_PF_character 73 = .ok (.invokespecial 71, 3) := by decide +kernel
theorem d_PF_character_76 : decode b_PF_character 76 = .ok (.astore 6, 2) := by decide +kernel
theorem d_PF_character_78 : decode b_PF_character 78 = .ok (.aload 6, 2) := by decide +kernel
theorem d_PF_character_80 : decode b_PF_character 80 = .ok (.iload_n 1, 1) := by decide +kernel
theorem d_PF_character_81 : decode b_PF_character 81 = .ok (.putfield 74, 3) := by decide +kernel
theorem d_PF_character_84 : decode b_PF_character 84 = .ok (.aload 6, 2) := by decide +kernel
theorem d_PF_character_86 : decode b_PF_character 86 = .ok (.iload_n 2, 1) := by decide +kernel
theorem d_PF_character_87 : decode b_PF_character 87 = .ok (.putfield 77, 3) := by decide +kernel
theorem d_PF_character_90 : decode b_PF_character 90 = .ok (.aload_n 0, 1) := by decide +kernel
theorem d_PF_character_91 : decode b_PF_character 91 = .ok (.getfield 46, 3) := by decide +kernel
theorem d_PF_character_94 : decode b_PF_character 94 = .ok (.aload 6, 2) := by decide +kernel
theorem d_PF_character_96 : decode b_PF_character 96 = .ok (.invokevirtual 80, 3) := by decide +kernel
theorem d_PF_character_99 : decode b_PF_character 99 = .ok (.aload_n 0, 1) := by decide +kernel
theorem d_PF_character_100 : decode b_PF_character 100 = .ok (.dup, 1) := by decide +kernel
theorem d_PF_character_101 : decode b_PF_character 101 = .ok (.getfield 62, 3) := by decide +kernel
theorem d_PF_character_104 : decode b_PF_character 104 = .ok (.iconst 1, 1) := by decide +kernel
theorem d_PF_character_105 : decode b_PF_character 105 = .ok (.iadd, 1) := by decide +kernel
theorem d_PF_character_106 : decode b_PF_character 106 = .ok (.putfield 62, 3) := by decide +kernel
theorem d_PF_character_109 : decode b_PF_character 109 = .ok (.iconst 1, 1) := by decide +kernel
theorem d_PF_character_110 : decode b_PF_character 110 = .ok (.ireturn, 1) := by decide +kernel
theorem d_PF_rule_0 : decode b_PF_rule 0 = .ok (.aload_n 0, 1) := by decide +kernel
theorem d_PF_rule_1 : decode b_PF_rule 1 = .ok (.getfield 46, 3) := by decide +kernel
theorem d_PF_rule_4 : decode b_PF_rule 4 = .ok (.ifnull 25, 3) := by decide +kernel
theorem d_PF_rule_7 : decode b_PF_rule 7 = .ok (.aload_n 0, 1) := by decide +kernel
theorem d_PF_rule_8 : decode b_PF_rule 8 = .ok (.getfield 62, 3) := by decide +kernel
theorem d_PF_rule_11 : decode b_PF_rule 11 = .ok (.sipush 3000, 3) := by decide +kernel
theorem d_PF_rule_14 : decode b_PF_rule 14 = .ok (.if_icmp .ge 15, 3) := by decide +kernel
theorem d_PF_rule_17 : decode b_PF_rule 17 = .ok (.iload_n 1, 1) := by decide +kernel
theorem d_PF_rule_18 : decode b_PF_rule 18 = .ok (.i2l, 1) := by decide +kernel
theorem d_PF_rule_19 : decode b_PF_rule 19 = .ok (.iload_n 2, 1) := by decide +kernel
theorem d_PF_rule_20 : decode b_PF_rule 20 = .ok (.i2l, 1) := by decide +kernel
theorem d_PF_rule_21 : decode b_PF_rule 21 = .ok (.iload_n 3, 1) := by decide +kernel
theorem d_PF_rule_22 : decode b_PF_rule 22 = .ok (.i2l, 1) := by decide +kernel
theorem d_PF_rule_23 : decode b_PF_rule 23 = .ok (.invokestatic 65, 3) := by decide +kernel
theorem d_PF_rule_26 : decode b_PF_rule 26 = .ok (.ifCond .ne 5, 3) := by decide +kernel
theorem d_PF_rule_29 : decode b_PF_rule 29 = .ok (.iconst 0, 1) := by decide +kernel
theorem d_PF_rule_30 : decode b_PF_rule 30 = .ok (.ireturn, 1) := by decide +kernel
theorem d_PF_rule_31 : decode b_PF_rule 31 = .ok (.aload_n 0, 1) := by decide +kernel
theorem d_PF_rule_32 : decode b_PF_rule 32 = .ok (.getfield 46, 3) := by decide +kernel
theorem d_PF_rule_35 : decode b_PF_rule 35 = .ok (.getfield 58, 3) := by decide +kernel
theorem d_PF_rule_38 : decode b_PF_rule 38 = .ok (.ifCond .eq 7, 3) := by decide +kernel
theorem d_PF_rule_41 : decode b_PF_rule 41 = .ok (.iconst 1, 1) := by decide +kernel
theorem d_PF_rule_42 : decode b_PF_rule 42 = .ok (.goto 5, 3) := by decide +kernel
theorem d_PF_rule_45 : decode b_PF_rule 45 = .ok (.bipush 6, 2) := by decide +kernel
theorem d_PF_rule_47 : decode b_PF_rule 47 = .ok (.istore 5, 2) := by decide +kernel
theorem d_PF_rule_49 : decode b_PF_rule 49 = .ok (.iload 4, 2) := by decide +kernel
theorem d_PF_rule_51 : decode b_PF_rule 51 = .ok (.iload 5, 2) := by decide +kernel
theorem d_PF_rule_53 : decode b_PF_rule 53 = .ok (.iconst (-1), 1) := by decide +kernel
theorem d_PF_rule_54 : decode b_PF_rule 54 = .ok (.ixor, 1) := by decide +kernel
theorem d_PF_rule_55 : decode b_PF_rule 55 = .ok (.iand, 1) := by decide +kernel
theorem d_PF_rule_56 : decode b_PF_rule 56 = .ok (.ifCond .eq 5, 3) := by decide +kernel
theorem d_PF_rule_59 : decode b_PF_rule 59 = .ok (.iconst 0, 1) := by decide +kernel
theorem d_PF_rule_60 : decode b_PF_rule 60 = .ok (.ireturn, 1) := by decide +kernel
theorem d_PF_rule_61 : decode b_PF_rule 61 = .ok (.new 69, 3) := by decide +kernel
theorem d_PF_rule_64 : decode b_PF_rule 64 = .ok (.dup, 1) := by decide +kernel
theorem d_PF_rule_65 : decode b_PF_rule 65 = .ok (.iconst 1, 1) := by decide +kernel
theorem d_PF_rule_66 : decode b_PF_rule 66 = .ok (.iload 4, 2) := by decide +kernel
theorem d_PF_rule_68 : decode b_PF_rule 68 = .ok (.iconst 1, 1) := by decide +kernel
theorem d_PF_rule_69 : decode b_PF_rule 69 = .ok (.iand, 1) := by decide +kernel
theorem d_PF_rule_70 : decode b_PF_rule 70 = .ok (.ifCond .eq 7, 3) := by decide +kernel
theorem d_PF_rule_73 : decode b_PF_rule 73 = .ok (.iconst 0, 1) := by decide +kernel
theorem d_PF_rule_74 : decode b_PF_rule 74 = .ok (.goto 4, 3) := by decide +kernel
theorem d_PF_rule_77 : decode b_PF_rule 77 = .ok (.iload_n 1, 1) := by decide +kernel
theorem d_PF_rule_78 : decode b_PF_rule 78 = .ok (.iload 4, 2) := by decide +kernel
theorem d_PF_rule_80 : decode b_PF_rule 80 = .ok (.iconst 2, 1) := by decide +kernel
theorem d_PF_rule_81 : decode b_PF_rule 81 = .ok (.iand, 1) := by decide +kernel
theorem d_PF_rule_82 : decode b_PF_rule 82 = .ok (.ifCond .eq 7, 3) := by decide +kernel
theorem d_PF_rule_85 : decode b_PF_rule 85 = .ok (.iconst 0, 1) := by decide +kernel
theorem d_PF_rule_86 : decode b_PF_rule 86 = .ok (.goto 4, 3) := by decide +kernel
theorem d_PF_rule_89 : decode b_PF_rule 89 = .ok (.iload_n 2, 1) := by decide +kernel
theorem d_PF_rule_90 : decode b_PF_rule 90 = .ok (.iload 4, 2) := by decide +kernel
theorem d_PF_rule_92 : decode b_PF_rule 92 = .ok (.iconst 4, 1) := by decide +kernel
theorem d_PF_rule_93 : decode b_PF_rule 93 = .ok (.iand, 1) := by decide +kernel
theorem d_PF_rule_94 : decode b_PF_rule 94 = .ok (.ifCond .eq 7, 3) := by decide +kernel
theorem d_PF_rule_97 : decode b_PF_rule 97 = .ok (.iconst 0, 1) := by decide +kernel
theorem d_PF_rule_98 : decode b_PF_rule 98 = .ok (.goto 4, 3) := by decide +kernel
theorem d_PF_rule_101 : decode b_PF_rule 101 = .ok (.iload_n 3, 1) := by decide +kernel
theorem d_PF_rule_102 : decode b_PF_rule 102 = .ok (.invokespecial 71, 3) := by decide +kernel
theorem d_PF_rule_105 : decode b_PF_rule 105 = .ok (.astore 6, 2) := by decide +kernel
theorem d_PF_rule_107 : decode b_PF_rule 107 = .ok (.aload 6, 2) := by decide +kernel
theorem d_PF_rule_109 : decode b_PF_rule 109 = .ok (.iload 4, 2) := by decide +kernel
theorem d_PF_rule_111 : decode b_PF_rule 111 = .ok (.putfield 84, 3) := by decide +kernel
theorem d_PF_rule_114 : decode b_PF_rule 114 = .ok (.aload_n 0, 1) := by decide +kernel
theorem d_PF_rule_115 : decode b_PF_rule 115 = .ok (.getfield 46, 3) := by decide +kernel
theorem d_PF_rule_118 : decode b_PF_rule 118 = .ok (.aload 6, 2) := by decide +kernel
theorem d_PF_rule_120 : decode b_PF_rule 120 = .ok (.invokevirtual 80, 3) := by decide +kernel
theorem d_PF_rule_123 : decode b_PF_rule 123 = .ok (.aload_n 0, 1) := by decide +kernel
theorem d_PF_rule_124 : decode b_PF_rule 124 = .ok (.dup, 1) := by decide +kernel
theorem d_PF_rule_125 : decode b_PF_rule 125 = .ok (.getfield 62, 3) := by decide +kernel
theorem d_PF_rule_128 : decode b_PF_rule 128 = .ok (.iconst 1, 1) := by decide +kernel
theorem d_PF_rule_129 : decode b_PF_rule 129 = .ok (.iadd, 1) := by decide +kernel
theorem d_PF_rule_130 : decode b_PF_rule 130 = .ok (.putfield 62, 3) := by decide +kernel
theorem d_PF_rule_133 : decode b_PF_rule 133 = .ok (.iconst 1, 1) := by decide +kernel
theorem d_PF_rule_134 : decode b_PF_rule 134 = .ok (.ireturn, 1) := by decide +kernel
theorem d_PF_space_0 : decode b_PF_space 0 = .ok (.aload_n 0, 1) := by decide +kernel
theorem d_PF_space_1 : decode b_PF_space 1 = .ok (.getfield 46, 3) := by decide +kernel
theorem d_PF_space_4 : decode b_PF_space 4 = .ok (.ifnull 21, 3) := by decide +kernel
theorem d_PF_space_7 : decode b_PF_space 7 = .ok (.aload_n 0, 1) := by decide +kernel
theorem d_PF_space_8 : decode b_PF_space 8 = .ok (.getfield 62, 3) := by decide +kernel
theorem d_PF_space_11 : decode b_PF_space 11 = .ok (.sipush 3000, 3) := by decide +kernel
theorem d_PF_space_14 : decode b_PF_space 14 = .ok (.if_icmp .ge 11, 3) := by decide +kernel
theorem d_PF_space_17 : decode b_PF_space 17 = .ok (.iload_n 1, 1) := by decide +kernel
theorem d_PF_space_18 : decode b_PF_space 18 = .ok (.i2l, 1) := by decide +kernel
theorem d_PF_space_19 : decode b_PF_space 19 = .ok (.invokestatic 87, 3) := by decide +kernel
theorem d_PF_space_22 : decode b_PF_space 22 = .ok (.ifCond .ne 5, 3) := by decide +kernel
theorem d_PF_space_25 : decode b_PF_space 25 = .ok (.iconst 0, 1) := by decide +kernel
theorem d_PF_space_26 : decode b_PF_space 26 = .ok (.ireturn, 1) := by decide +kernel
theorem d_PF_space_27 : decode b_PF_space 27 = .ok (.aload_n 0, 1) := by decide +kernel
theorem d_PF_space_28 : decode b_PF_space 28 = .ok (.getfield 46, 3) := by decide +kernel
theorem d_PF_space_31 : decode b_PF_space 31 = .ok (.new 69, 3) := by decide +kernel
theorem d_PF_space_34 : decode b_PF_space 34 = .ok (.dup, 1) := by decide +kernel
theorem d_PF_space_35 : decode b_PF_space 35 = .ok (.iconst 2, 1) := by decide +kernel
theorem d_PF_space_36 : decode b_PF_space 36 = .ok (.iload_n 1, 1) := by decide +kernel
theorem d_PF_space_37 : decode b_PF_space 37 = .ok (.iconst 0, 1) := by decide +kernel
theorem d_PF_space_38 : decode b_PF_space 38 = .ok (.iconst 0, 1) := by decide +kernel
theorem d_PF_space_39 : decode b_PF_space 39 = .ok (.invokespecial 71, 3) := by decide +kernel
theorem d_PF_space_42 : decode b_PF_space 42 = .ok (.invokevirtual 80, 3) := by decide +kernel
theorem d_PF_space_45 : decode b_PF_space 45 = .ok (.aload_n 0, 1) := by decide +kernel
theorem d_PF_space_46 : decode b_PF_space 46 = .ok (.dup, 1) := by decide +kernel
theorem d_PF_space_47 : decode b_PF_space 47 = .ok (.getfield 62, 3) := by decide +kernel
theorem d_PF_space_50 : decode b_PF_space 50 = .ok (.iconst 1, 1) := by decide +kernel
theorem d_PF_space_51 : decode b_PF_space 51 = .ok (.iadd, 1) := by decide +kernel
theorem d_PF_space_52 : decode b_PF_space 52 = .ok (.putfield 62, 3) := by decide +kernel
theorem d_PF_space_55 : decode b_PF_space 55 = .ok (.iconst 1, 1) := by decide +kernel
theorem d_PF_space_56 : decode b_PF_space 56 = .ok (.ireturn, 1) := by decide +kernel
theorem d_PF_close_0 : decode b_PF_close 0 = .ok (.aload_n 0, 1) := by decide +kernel
theorem d_PF_close_1 : decode b_PF_close 1 = .ok (.getfield 46, 3) := by decide +kernel
theorem d_PF_close_4 : decode b_PF_close 4 = .ok (.ifnull 20, 3) := by decide +kernel
theorem d_PF_close_7 : decode b_PF_close 7 = .ok (.iload_n 1, 1) := by decide +kernel
theorem d_PF_close_8 : decode b_PF_close 8 = .ok (.invokestatic 91, 3) := by decide +kernel
theorem d_PF_close_11 : decode b_PF_close 11 = .ok (.ifCond .eq 13, 3) := by decide +kernel
theorem d_PF_close_14 : decode b_PF_close 14 = .ok (.aload_n 0, 1) := by decide +kernel
theorem d_PF_close_15 : decode b_PF_close 15 = .ok (.getfield 62, 3) := by decide +kernel
theorem d_PF_close_18 : decode b_PF_close 18 = .ok (.sipush 3000, 3) := by decide +kernel
theorem d_PF_close_21 : decode b_PF_close 21 = .ok (.if_icmp .lt 5, 3) := by decide +kernel
theorem d_PF_close_24 : decode b_PF_close 24 = .ok (.iconst 0, 1) := by decide +kernel
theorem d_PF_close_25 : decode b_PF_close 25 = .ok (.ireturn, 1) := by decide +kernel
theorem d_PF_close_26 : decode b_PF_close 26 = .ok (.aload_n 0, 1) := by decide +kernel
theorem d_PF_close_27 : decode b_PF_close 27 = .ok (.getfield 46, 3) := by decide +kernel
theorem d_PF_close_30 : decode b_PF_close 30 = .ok (.invokevirtual 94, 3) := by decide +kernel
theorem d_PF_close_33 : decode b_PF_close 33 = .ok (.astore_n 2, 1) := by decide +kernel
theorem d_PF_close_34 : decode b_PF_close 34 = .ok (.aload_n 2, 1) := by decide +kernel
theorem d_PF_close_35 : decode b_PF_close 35 = .ok (.ifnonnull 5, 3) := by decide +kernel
theorem d_PF_close_38 : decode b_PF_close 38 = .ok (.iconst 0, 1) := by decide +kernel
theorem d_PF_close_39 : decode b_PF_close 39 = .ok (.ireturn, 1) := by decide +kernel
theorem d_PF_close_40 : decode b_PF_close 40 = .ok (.aload_n 0, 1) := by decide +kernel
theorem d_PF_close_41 : decode b_PF_close 41 = .ok (.aload_n 0, 1) := by decide +kernel
theorem d_PF_close_42 : decode b_PF_close 42 = .ok (.getfield 46, 3) := by decide +kernel
theorem d_PF_close_45 : decode b_PF_close 45 = .ok (.getfield 98, 3) := by decide +kernel
theorem d_PF_close_48 : decode b_PF_close 48 = .ok (.putfield 46, 3) := by decide +kernel
theorem d_PF_close_51 : decode b_PF_close 51 = .ok (.aload_n 0, 1) := by decide +kernel
theorem d_PF_close_52 : decode b_PF_close 52 = .ok (.dup, 1) := by decide +kernel
theorem d_PF_close_53 : decode b_PF_close 53 = .ok (.getfield 62, 3) := by decide +kernel
theorem d_PF_close_56 : decode b_PF_close 56 = .ok (.iconst 1, 1) := by decide +kernel
theorem d_PF_close_57 : decode b_PF_close 57 = .ok (.iadd, 1) := by decide +kernel
theorem d_PF_close_58 : decode b_PF_close 58 = .ok (.putfield 62, 3) := by decide +kernel
theorem d_PF_close_61 : decode b_PF_close 61 = .ok (.aload_n 0, 1) := by decide +kernel
theorem d_PF_close_62 : decode b_PF_close 62 = .ok (.iload_n 1, 1) := by decide +kernel
theorem d_PF_close_63 : decode b_PF_close 63 = .ok (.invokevirtual 101, 3) := by decide +kernel
theorem d_PF_close_66 : decode b_PF_close 66 = .ok (.aload_n 0, 1) := by decide +kernel
theorem d_PF_close_67 : decode b_PF_close 67 = .ok (.getfield 11, 3) := by decide +kernel
theorem d_PF_close_70 : decode b_PF_close 70 = .ok (.iload_n 1, 1) := by decide +kernel
theorem d_PF_close_71 : decode b_PF_close 71 = .ok (.aload_n 2, 1) := by decide +kernel
theorem d_PF_close_72 : decode b_PF_close 72 = .ok (.aastore, 1) := by decide +kernel
theorem d_PF_close_73 : decode b_PF_close 73 = .ok (.iconst 1, 1) := by decide +kernel
theorem d_PF_close_74 : decode b_PF_close 74 = .ok (.ireturn, 1) := by decide +kernel
theorem d_PF_put_0 : decode b_PF_put 0 = .ok (.aload_n 0, 1) := by decide +kernel
theorem d_PF_put_1 : decode b_PF_put 1 = .ok (.iload_n 1, 1) := by decide +kernel
theorem d_PF_put_2 : decode b_PF_put 2 = .ok (.invokevirtual 105, 3) := by decide +kernel
theorem d_PF_put_5 : decode b_PF_put 5 = .ok (.astore 4, 2) := by decide +kernel
theorem d_PF_put_7 : decode b_PF_put 7 = .ok (.aload_n 0, 1) := by decide +kernel
theorem d_PF_put_8 : decode b_PF_put 8 = .ok (.getfield 46, 3) := by decide +kernel
theorem d_PF_put_11 : decode b_PF_put 11 = .ok (.ifnull 16, 3) := by decide +kernel
theorem d_PF_put_14 : decode b_PF_put 14 = .ok (.aload 4, 2) := by decide +kernel
theorem d_PF_put_16 : decode b_PF_put 16 = .ok (.ifnull 11, 3) := by decide +kernel
theorem d_PF_put_19 : decode b_PF_put 19 = .ok (.iload_n 2, 1) := by decide +kernel
theorem d_PF_put_20 : decode b_PF_put 20 = .ok (.i2l, 1) := by decide +kernel
theorem d_PF_put_21 : decode b_PF_put 21 = .ok (.invokestatic 87, 3) := by decide +kernel
theorem d_PF_put_24 : decode b_PF_put 24 = .ok (.ifCond .ne 5, 3) := by decide +kernel
theorem d_PF_put_27 : decode b_PF_put 27 = .ok (.iconst 0, 1) := by decide +kernel
theorem d_PF_put_28 : decode b_PF_put 28 = .ok (.ireturn, 1) := by decide +kernel
theorem d_PF_put_29 : decode b_PF_put 29 = .ok (.iload_n 3, 1) := by decide +kernel
theorem d_PF_put_30 : decode b_PF_put 30 = .ok (.ifCond .eq 21, 3) := by decide +kernel
theorem d_PF_put_33 : decode b_PF_put 33 = .ok (.aload_n 0, 1) := by decide +kernel
theorem d_PF_put_34 : decode b_PF_put 34 = .ok (.getfield 62, 3) := by decide +kernel
theorem d_PF_put_37 : decode b_PF_put 37 = .ok (.aload 4, 2) := by decide +kernel
theorem d_PF_put_39 : decode b_PF_put 39 = .ok (.getfield 109, 3) := by decide +kernel
theorem d_PF_put_42 : decode b_PF_put 42 = .ok (.iadd, 1) := by decide +kernel
theorem d_PF_put_43 : decode b_PF_put 43 = .ok (.sipush 3000, 3) := by decide +kernel
theorem d_PF_put_46 : decode b_PF_put 46 = .ok (.if_icmp .le 5, 3) := by decide +kernel
theorem d_PF_put_49 : decode b_PF_put 49 = .ok (.iconst 0, 1) := by decide +kernel
theorem d_PF_put_50 : decode b_PF_put 50 = .ok (.ireturn, 1) := by decide +kernel
theorem d_PF_put_51 : decode b_PF_put 51 = .ok (.iload_n 3, 1) := by decide +kernel
theorem d_PF_put_52 : decode b_PF_put 52 = .ok (.ifCond .ne 8, 3) := by decide +kernel
theorem d_PF_put_55 : decode b_PF_put 55 = .ok (.aload_n 0, 1) := by decide +kernel
theorem d_PF_put_56 : decode b_PF_put 56 = .ok (.iload_n 1, 1) := by decide +kernel
theorem d_PF_put_57 : decode b_PF_put 57 = .ok (.invokevirtual 101, 3) := by decide +kernel
theorem d_PF_put_60 : decode b_PF_put 60 = .ok (.new 69, 3) := by decide +kernel
theorem d_PF_put_63 : decode b_PF_put 63 = .ok (.dup, 1) := by decide +kernel
theorem d_PF_put_64 : decode b_PF_put 64 = .ok (.iconst 3, 1) := by decide +kernel
theorem d_PF_put_65 : decode b_PF_put 65 = .ok (.aload 4, 2) := by decide +kernel
theorem d_PF_put_67 : decode b_PF_put 67 = .ok (.getfield 110, 3) := by decide +kernel
theorem d_PF_put_70 : decode b_PF_put 70 = .ok (.aload 4, 2) := by decide +kernel
theorem d_PF_put_72 : decode b_PF_put 72 = .ok (.getfield 113, 3) := by decide +kernel
theorem d_PF_put_75 : decode b_PF_put 75 = .ok (.aload 4, 2) := by decide +kernel
theorem d_PF_put_77 : decode b_PF_put 77 = .ok (.getfield 116, 3) := by decide +kernel
theorem d_PF_put_80 : decode b_PF_put 80 = .ok (.invokespecial 71, 3) := by decide +kernel
theorem d_PF_put_83 : decode b_PF_put 83 = .ok (.astore 5, 2) := by decide +kernel
theorem d_PF_put_85 : decode b_PF_put 85 = .ok (.aload 5, 2) := by decide +kernel
theorem d_PF_put_87 : decode b_PF_put 87 = .ok (.aload 4, 2) := by decide +kernel
theorem d_PF_put_89 : decode b_PF_put 89 = .ok (.putfield 119, 3) := by decide +kernel
theorem d_PF_put_92 : decode b_PF_put 92 = .ok (.aload 5, 2) := by decide +kernel
theorem d_PF_put_94 : decode b_PF_put 94 = .ok (.iload_n 2, 1) := by decide +kernel
theorem d_PF_put_95 : decode b_PF_put 95 = .ok (.putfield 123, 3) := by decide +kernel
theorem d_PF_put_98 : decode b_PF_put 98 = .ok (.aload_n 0, 1) := by decide +kernel
theorem d_PF_put_99 : decode b_PF_put 99 = .ok (.getfield 46, 3) := by decide +kernel
theorem d_PF_put_102 : decode b_PF_put 102 = .ok (.aload 5, 2) := by decide +kernel
theorem d_PF_put_104 : decode b_PF_put 104 = .ok (.invokevirtual 80, 3) := by decide +kernel
theorem d_PF_put_107 : decode b_PF_put 107 = .ok (.aload_n 0, 1) := by decide +kernel
theorem d_PF_put_108 : decode b_PF_put 108 = .ok (.dup, 1) := by decide +kernel
theorem d_PF_put_109 : decode b_PF_put 109 = .ok (.getfield 62, 3) := by decide +kernel
theorem d_PF_put_112 : decode b_PF_put 112 = .ok (.aload 4, 2) := by decide +kernel
theorem d_PF_put_114 : decode b_PF_put 114 = .ok (.getfield 109, 3) := by decide +kernel
theorem d_PF_put_117 : decode b_PF_put 117 = .ok (.iadd, 1) := by decide +kernel
theorem d_PF_put_118 : decode b_PF_put 118 = .ok (.putfield 62, 3) := by decide +kernel
theorem d_PF_put_121 : decode b_PF_put 121 = .ok (.iconst 1, 1) := by decide +kernel
theorem d_PF_put_122 : decode b_PF_put 122 = .ok (.ireturn, 1) := by decide +kernel
theorem d_PF_ship_0 : decode b_PF_ship 0 = .ok (.aload_n 0, 1) := by decide +kernel
theorem d_PF_ship_1 : decode b_PF_ship 1 = .ok (.iload_n 1, 1) := by decide +kernel
theorem d_PF_ship_2 : decode b_PF_ship 2 = .ok (.invokevirtual 105, 3) := by decide +kernel
theorem d_PF_ship_5 : decode b_PF_ship 5 = .ok (.astore_n 2, 1) := by decide +kernel
theorem d_PF_ship_6 : decode b_PF_ship 6 = .ok (.aload_n 0, 1) := by decide +kernel
theorem d_PF_ship_7 : decode b_PF_ship 7 = .ok (.getfield 126, 3) := by decide +kernel
theorem d_PF_ship_10 : decode b_PF_ship 10 = .ok (.ifCond .ne 7, 3) := by decide +kernel
theorem d_PF_ship_13 : decode b_PF_ship 13 = .ok (.aload_n 2, 1) := by decide +kernel
theorem d_PF_ship_14 : decode b_PF_ship 14 = .ok (.ifnonnull 13, 3) := by decide +kernel
theorem d_PF_ship_17 : decode b_PF_ship 17 = .ok (.new 129, 3) := by decide +kernel
theorem d_PF_ship_20 : decode b_PF_ship 20 = .ok (.dup, 1) := by decide +kernel
theorem d_PF_ship_21 : decode b_PF_ship 21 = .ok (.ldc 131, 2) := by decide +kernel
theorem d_PF_ship_23 : decode b_PF_ship 23 = .ok (.invokespecial 133, 3) := by decide +kernel
theorem d_PF_ship_26 : decode b_PF_ship 26 = .ok (.athrow, 1) := by decide +kernel
theorem d_PF_ship_27 : decode b_PF_ship 27 = .ok (.aload_n 0, 1) := by decide +kernel
theorem d_PF_ship_28 : decode b_PF_ship 28 = .ok (.getfield 26, 3) := by decide +kernel
theorem d_PF_ship_31 : decode b_PF_ship 31 = .ok (.getfield 136, 3) := by decide +kernel
theorem d_PF_ship_34 : decode b_PF_ship 34 = .ok (.ldc 141, 2) := by decide +kernel
theorem d_PF_ship_36 : decode b_PF_ship 36 = .ok (.if_icmp .lt 13, 3) := by decide +kernel
theorem d_PF_ship_39 : decode b_PF_ship 39 = .ok (.new 142, 3) := by decide +kernel
theorem d_PF_ship_42 : decode b_PF_ship 42 = .ok (.dup, 1) := by decide +kernel
theorem d_PF_ship_43 : decode b_PF_ship 43 = .ok (.ldc 144, 2) := by decide +kernel
theorem d_PF_ship_45 : decode b_PF_ship 45 = .ok (.invokespecial 146, 3) := by decide +kernel
theorem d_PF_ship_48 : decode b_PF_ship 48 = .ok (.athrow, 1) := by decide +kernel
theorem d_PF_ship_49 : decode b_PF_ship 49 = .ok (.aload_n 0, 1) := by decide +kernel
theorem d_PF_ship_50 : decode b_PF_ship 50 = .ok (.iload_n 1, 1) := by decide +kernel
theorem d_PF_ship_51 : decode b_PF_ship 51 = .ok (.invokevirtual 101, 3) := by decide +kernel
theorem d_PF_ship_54 : decode b_PF_ship 54 = .ok (.aload_n 0, 1) := by decide +kernel
theorem d_PF_ship_55 : decode b_PF_ship 55 = .ok (.aload_n 2, 1) := by decide +kernel
theorem d_PF_ship_56 : decode b_PF_ship 56 = .ok (.invokevirtual 147, 3) := by decide +kernel
theorem d_PF_ship_59 : decode b_PF_ship 59 = .ok (.ifCond .ne 13, 3) := by decide +kernel
theorem d_PF_ship_62 : decode b_PF_ship 62 = .ok (.new 142, 3) := by decide +kernel
theorem d_PF_ship_65 : decode b_PF_ship 65 = .ok (.dup, 1) := by decide +kernel
theorem d_PF_ship_66 : decode b_PF_ship 66 = .ok (.ldc 151, 2) := by decide +kernel
theorem d_PF_ship_68 : decode b_PF_ship 68 = .ok (.invokespecial 146, 3) := by decide +kernel
theorem d_PF_ship_71 : decode b_PF_ship 71 = .ok (.athrow, 1) := by decide +kernel
theorem d_PF_ship_72 : decode b_PF_ship 72 = .ok (.aload_n 0, 1) := by decide +kernel
theorem d_PF_ship_73 : decode b_PF_ship 73 = .ok (.getfield 26, 3) := by decide +kernel
theorem d_PF_ship_76 : decode b_PF_ship 76 = .ok (.getfield 136, 3) := by decide +kernel
theorem d_PF_ship_79 : decode b_PF_ship 79 = .ok (.ireturn, 1) := by decide +kernel
theorem d_PF_finish_0 : decode b_PF_finish 0 = .ok (.aload_n 0, 1) := by decide +kernel
theorem d_PF_finish_1 : decode b_PF_finish 1 = .ok (.getfield 126, 3) := by decide +kernel
theorem d_PF_finish_4 : decode b_PF_finish 4 = .ok (.ifCond .eq 13, 3) := by decide +kernel
theorem d_PF_finish_7 : decode b_PF_finish 7 = .ok (.new 129, 3) := by decide +kernel
theorem d_PF_finish_10 : decode b_PF_finish 10 = .ok (.dup, 1) := by decide +kernel
theorem d_PF_finish_11 : decode b_PF_finish 11 = .ok (.ldc 153, 2) := by decide +kernel
theorem d_PF_finish_13 : decode b_PF_finish 13 = .ok (.invokespecial 133, 3) := by decide +kernel
theorem d_PF_finish_16 : decode b_PF_finish 16 = .ok (.athrow, 1) := by decide +kernel
theorem d_PF_finish_17 : decode b_PF_finish 17 = .ok (.aload_n 0, 1) := by decide +kernel
theorem d_PF_finish_18 : decode b_PF_finish 18 = .ok (.invokevirtual 155, 3) := by decide +kernel
theorem d_PF_finish_21 : decode b_PF_finish 21 = .ok (.aload_n 0, 1) := by decide +kernel
theorem d_PF_finish_22 : decode b_PF_finish 22 = .ok (.getfield 26, 3) := by decide +kernel
theorem d_PF_finish_25 : decode b_PF_finish 25 = .ok (.getfield 136, 3) := by decide +kernel
theorem d_PF_finish_28 : decode b_PF_finish 28 = .ok (.istore_n 1, 1) := by decide +kernel
theorem d_PF_finish_29 : decode b_PF_finish 29 = .ok (.aload_n 0, 1) := by decide +kernel
theorem d_PF_finish_30 : decode b_PF_finish 30 = .ok (.getfield 26, 3) := by decide +kernel
theorem d_PF_finish_33 : decode b_PF_finish 33 = .ok (.sipush 248, 3) := by decide +kernel
theorem d_PF_finish_36 : decode b_PF_finish 36 = .ok (.iconst 1, 1) := by decide +kernel
theorem d_PF_finish_37 : decode b_PF_finish 37 = .ok (.invokevirtual 158, 3) := by decide +kernel
theorem d_PF_finish_40 : decode b_PF_finish 40 = .ok (.aload_n 0, 1) := by decide +kernel
theorem d_PF_finish_41 : decode b_PF_finish 41 = .ok (.getfield 26, 3) := by decide +kernel
theorem d_PF_finish_44 : decode b_PF_finish 44 = .ok (.aload_n 0, 1) := by decide +kernel
theorem d_PF_finish_45 : decode b_PF_finish 45 = .ok (.getfield 32, 3) := by decide +kernel
theorem d_PF_finish_48 : decode b_PF_finish 48 = .ok (.iconst 4, 1) := by decide +kernel
theorem d_PF_finish_49 : decode b_PF_finish 49 = .ok (.invokevirtual 158, 3) := by decide +kernel
theorem d_PF_finish_52 : decode b_PF_finish 52 = .ok (.aload_n 0, 1) := by decide +kernel
theorem d_PF_finish_53 : decode b_PF_finish 53 = .ok (.invokevirtual 162, 3) := by decide +kernel
theorem d_PF_finish_56 : decode b_PF_finish 56 = .ok (.aload_n 0, 1) := by decide +kernel
theorem d_PF_finish_57 : decode b_PF_finish 57 = .ok (.getfield 26, 3) := by decide +kernel
theorem d_PF_finish_60 : decode b_PF_finish 60 = .ok (.aload_n 0, 1) := by decide +kernel
theorem d_PF_finish_61 : decode b_PF_finish 61 = .ok (.getfield 165, 3) := by decide +kernel
theorem d_PF_finish_64 : decode b_PF_finish 64 = .ok (.iconst 4, 1) := by decide +kernel
theorem d_PF_finish_65 : decode b_PF_finish 65 = .ok (.invokevirtual 158, 3) := by decide +kernel
theorem d_PF_finish_68 : decode b_PF_finish 68 = .ok (.aload_n 0, 1) := by decide +kernel
theorem d_PF_finish_69 : decode b_PF_finish 69 = .ok (.getfield 26, 3) := by decide +kernel
theorem d_PF_finish_72 : decode b_PF_finish 72 = .ok (.aload_n 0, 1) := by decide +kernel
theorem d_PF_finish_73 : decode b_PF_finish 73 = .ok (.getfield 168, 3) := by decide +kernel
theorem d_PF_finish_76 : decode b_PF_finish 76 = .ok (.iconst 4, 1) := by decide +kernel
theorem d_PF_finish_77 : decode b_PF_finish 77 = .ok (.invokevirtual 158, 3) := by decide +kernel
theorem d_PF_finish_80 : decode b_PF_finish 80 = .ok (.aload_n 0, 1) := by decide +kernel
theorem d_PF_finish_81 : decode b_PF_finish 81 = .ok (.getfield 26, 3) := by decide +kernel
theorem d_PF_finish_84 : decode b_PF_finish 84 = .ok (.aload_n 0, 1) := by decide +kernel
theorem d_PF_finish_85 : decode b_PF_finish 85 = .ok (.getfield 171, 3) := by decide +kernel
theorem d_PF_finish_88 : decode b_PF_finish 88 = .ok (.iconst 2, 1) := by decide +kernel
theorem d_PF_finish_89 : decode b_PF_finish 89 = .ok (.invokevirtual 158, 3) := by decide +kernel
theorem d_PF_finish_92 : decode b_PF_finish 92 = .ok (.aload_n 0, 1) := by decide +kernel
theorem d_PF_finish_93 : decode b_PF_finish 93 = .ok (.getfield 26, 3) := by decide +kernel
theorem d_PF_finish_96 : decode b_PF_finish 96 = .ok (.aload_n 0, 1) := by decide +kernel
theorem d_PF_finish_97 : decode b_PF_finish 97 = .ok (.getfield 174, 3) := by decide +kernel
theorem d_PF_finish_100 : decode b_PF_finish 100 = .ok (.iconst 2, 1) := by decide +kernel
theorem d_PF_finish_101 : decode b_PF_finish 101 = .ok (.invokevirtual 158, 3) := by decide +kernel
theorem d_PF_finish_104 : decode b_PF_finish 104 = .ok (.bipush 31, 2) := by decide +kernel
theorem d_PF_finish_106 : decode b_PF_finish 106 = .ok (.istore_n 2, 1) := by decide +kernel
theorem d_PF_finish_107 : decode b_PF_finish 107 = .ok (.iload_n 2, 1) := by decide +kernel
theorem d_PF_finish_108 : decode b_PF_finish 108 = .ok (.ifCond .lt 32, 3) := by decide +kernel
theorem d_PF_finish_111 : decode b_PF_finish 111 = .ok (.aload_n 0, 1) := by decide +kernel
theorem d_PF_finish_112 : decode b_PF_finish 112 = .ok (.getfield 31, 3) := by decide +kernel
theorem d_PF_finish_115 : decode b_PF_finish 115 = .ok (.iload_n 2, 1) := by decide +kernel
theorem d_PF_finish_116 : decode b_PF_finish 116 = .ok (.invokevirtual 177, 3) := by decide +kernel
theorem d_PF_finish_119 : decode b_PF_finish 119 = .ok (.ifCond .eq 15, 3) := by decide +kernel
theorem d_PF_finish_122 : decode b_PF_finish 122 = .ok (.aload_n 0, 1) := by decide +kernel
theorem d_PF_finish_123 : decode b_PF_finish 123 = .ok (.getfield 31, 3) := by decide +kernel
theorem d_PF_finish_126 : decode b_PF_finish 126 = .ok (.iload_n 2, 1) := by decide +kernel
theorem d_PF_finish_127 : decode b_PF_finish 127 = .ok (.aload_n 0, 1) := by decide +kernel
theorem d_PF_finish_128 : decode b_PF_finish 128 = .ok (.getfield 26, 3) := by decide +kernel
theorem d_PF_finish_131 : decode b_PF_finish 131 = .ok (.invokevirtual 180, 3) := by decide +kernel
theorem d_PF_finish_134 : decode b_PF_finish 134 = .ok (.iinc 2 (-1), 3) := by decide +kernel
theorem d_PF_finish_137 : decode b_PF_finish 137 = .ok (.goto (-30), 3) := by decide +kernel
theorem d_PF_finish_140 : decode b_PF_finish 140 = .ok (.aload_n 0, 1) := by decide +kernel
theorem d_PF_finish_141 : decode b_PF_finish 141 = .ok (.getfield 26, 3) := by decide +kernel
theorem d_PF_finish_144 : decode b_PF_finish 144 = .ok (.sipush 249, 3) := by decide +kernel
theorem d_PF_finish_147 : decode b_PF_finish 147 = .ok (.iconst 1, 1) := by decide +kernel
theorem d_PF_finish_148 : decode b_PF_finish 148 = .ok (.invokevirtual 158, 3) := by decide +kernel
theorem d_PF_finish_151 : decode b_PF_finish 151 = .ok (.aload_n 0, 1) := by decide +kernel
theorem d_PF_finish_152 : decode b_PF_finish 152 = .ok (.getfield 26, 3) := by decide +kernel
theorem d_PF_finish_155 : decode b_PF_finish 155 = .ok (.iload_n 1, 1) := by decide +kernel
theorem d_PF_finish_156 : decode b_PF_finish 156 = .ok (.iconst 4, 1) := by decide +kernel
theorem d_PF_finish_157 : decode b_PF_finish 157 = .ok (.invokevirtual 158, 3) := by decide +kernel
theorem d_PF_finish_160 : decode b_PF_finish 160 = .ok (.aload_n 0, 1) := by decide +kernel
theorem d_PF_finish_161 : decode b_PF_finish 161 = .ok (.getfield 26, 3) := by decide +kernel
theorem d_PF_finish_164 : decode b_PF_finish 164 = .ok (.iconst 2, 1) := by decide +kernel
theorem d_PF_finish_165 : decode b_PF_finish 165 = .ok (.iconst 1, 1) := by decide +kernel
theorem d_PF_finish_166 : decode b_PF_finish 166 = .ok (.invokevirtual 158, 3) := by decide +kernel
theorem d_PF_finish_169 : decode b_PF_finish 169 = .ok (.iconst 4, 1) := by decide +kernel
theorem d_PF_finish_170 : decode b_PF_finish 170 = .ok (.iconst 4, 1) := by decide +kernel
theorem d_PF_finish_171 : decode b_PF_finish 171 = .ok (.aload_n 0, 1) := by decide +kernel
theorem d_PF_finish_172 : decode b_PF_finish 172 = .ok (.getfield 26, 3) := by decide +kernel
theorem d_PF_finish_175 : decode b_PF_finish 175 = .ok (.getfield 136, 3) := by decide +kernel
theorem d_PF_finish_178 : decode b_PF_finish 178 = .ok (.iconst 4, 1) := by decide +kernel
theorem d_PF_finish_179 : decode b_PF_finish 179 = .ok (.irem, 1) := by decide +kernel
theorem d_PF_finish_180 : decode b_PF_finish 180 = .ok (.isub, 1) := by decide +kernel
theorem d_PF_finish_181 : decode b_PF_finish 181 = .ok (.iconst 4, 1) := by decide +kernel
theorem d_PF_finish_182 : decode b_PF_finish 182 = .ok (.irem, 1) := by decide +kernel
theorem d_PF_finish_183 : decode b_PF_finish 183 = .ok (.iadd, 1) := by decide +kernel
theorem d_PF_finish_184 : decode b_PF_finish 184 = .ok (.istore_n 2, 1) := by decide +kernel
theorem d_PF_finish_185 : decode b_PF_finish 185 = .ok (.iconst 0, 1) := by decide +kernel
theorem d_PF_finish_186 : decode b_PF_finish 186 = .ok (.istore_n 3, 1) := by decide +kernel
theorem d_PF_finish_187 : decode b_PF_finish 187 = .ok (.iload_n 3, 1) := by decide +kernel
theorem d_PF_finish_188 : decode b_PF_finish 188 = .ok (.iload_n 2, 1) := by decide +kernel
theorem d_PF_finish_189 : decode b_PF_finish 189 = .ok (.if_icmp .ge 20, 3) := by decide +kernel
theorem d_PF_finish_192 : decode b_PF_finish 192 = .ok (.aload_n 0, 1) := by decide +kernel
theorem d_PF_finish_193 : decode b_PF_finish 193 = .ok (.getfield 26, 3) := by decide +kernel
theorem d_PF_finish_196 : decode b_PF_finish 196 = .ok (.sipush 223, 3) := by decide +kernel
theorem d_PF_finish_199 : decode b_PF_finish 199 = .ok (.iconst 1, 1) := by decide +kernel
theorem d_PF_finish_200 : decode b_PF_finish 200 = .ok (.invokevirtual 158, 3) := by decide +kernel
theorem d_PF_finish_203 : decode b_PF_finish 203 = .ok (.iinc 3 1, 3) := by decide +kernel
theorem d_PF_finish_206 : decode b_PF_finish 206 = .ok (.goto (-19), 3) := by decide +kernel
theorem d_PF_finish_209 : decode b_PF_finish 209 = .ok (.aload_n 0, 1) := by decide +kernel
theorem d_PF_finish_210 : decode b_PF_finish 210 = .ok (.iconst 1, 1) := by decide +kernel
theorem d_PF_finish_211 : decode b_PF_finish 211 = .ok (.putfield 126, 3) := by decide +kernel
theorem d_PF_finish_214 : decode b_PF_finish 214 = .ok (.aload_n 0, 1) := by decide +kernel
theorem d_PF_finish_215 : decode b_PF_finish 215 = .ok (.getfield 26, 3) := by decide +kernel
theorem d_PF_finish_218 : decode b_PF_finish 218 = .ok (.getfield 136, 3) := by decide +kernel
theorem d_PF_finish_221 : decode b_PF_finish 221 = .ok (.ireturn, 1) := by decide +kernel
theorem d_PF_byteAt_0 : decode b_PF_byteAt 0 = .ok (.aload_n 0, 1) := by decide +kernel
theorem d_PF_byteAt_1 : decode b_PF_byteAt 1 = .ok (.getfield 26, 3) := by decide +kernel
theorem d_PF_byteAt_4 : decode b_PF_byteAt 4 = .ok (.iload_n 1, 1) := by decide +kernel
theorem d_PF_byteAt_5 : decode b_PF_byteAt 5 = .ok (.invokevirtual 184, 3) := by decide +kernel
theorem d_PF_byteAt_8 : decode b_PF_byteAt 8 = .ok (.ireturn, 1) := by decide +kernel
theorem d_PF_count_0 : decode b_PF_count 0 = .ok (.iload_n 1, 1) := by decide +kernel
theorem d_PF_count_1 : decode b_PF_count 1 = .ok (.tableswitch 85 0 4 #[35, 43, 48, 67, 72], 35) := by decide +kernel
theorem d_PF_count_36 : decode b_PF_count 36 = .ok (.aload_n 0, 1) := by decide +kernel
theorem d_PF_count_37 : decode b_PF_count 37 = .ok (.getfield 26, 3) := by decide +kernel
theorem d_PF_count_40 : decode b_PF_count 40 = .ok (.getfield 136, 3) := by decide +kernel
theorem d_PF_count_43 : decode b_PF_count 43 = .ok (.ireturn, 1) := by decide +kernel
theorem d_PF_count_44 : decode b_PF_count 44 = .ok (.aload_n 0, 1) := by decide +kernel
theorem d_PF_count_45 : decode b_PF_count 45 = .ok (.getfield 174, 3) := by decide +kernel
theorem d_PF_count_48 : decode b_PF_count 48 = .ok (.ireturn, 1) := by decide +kernel
theorem d_PF_count_49 : decode b_PF_count 49 = .ok (.aload_n 0, 1) := by decide +kernel
theorem d_PF_count_50 : decode b_PF_count 50 = .ok (.getfield 46, 3) := by decide +kernel
theorem d_PF_count_53 : decode b_PF_count 53 = .ok (.ifnonnull 7, 3) := by decide +kernel
theorem d_PF_count_56 : decode b_PF_count 56 = .ok (.iconst 0, 1) := by decide +kernel
theorem d_PF_count_57 : decode b_PF_count 57 = .ok (.goto 10, 3) := by decide +kernel
theorem d_PF_count_60 : decode b_PF_count 60 = .ok (.aload_n 0, 1) := by decide +kernel
theorem d_PF_count_61 : decode b_PF_count 61 = .ok (.getfield 46, 3) := by decide +kernel
theorem d_PF_count_64 : decode b_PF_count 64 = .ok (.getfield 50, 3) := by decide +kernel
theorem d_PF_count_67 : decode b_PF_count 67 = .ok (.ireturn, 1) := by decide +kernel
theorem d_PF_count_68 : decode b_PF_count 68 = .ok (.aload_n 0, 1) := by decide +kernel
theorem d_PF_count_69 : decode b_PF_count 69 = .ok (.getfield 62, 3) := by decide +kernel
theorem d_PF_count_72 : decode b_PF_count 72 = .ok (.ireturn, 1) := by decide +kernel
theorem d_PF_count_73 : decode b_PF_count 73 = .ok (.aload_n 0, 1) := by decide +kernel
theorem d_PF_count_74 : decode b_PF_count 74 = .ok (.getfield 126, 3) := by decide +kernel
theorem d_PF_count_77 : decode b_PF_count 77 = .ok (.ifCond .eq 7, 3) := by decide +kernel
theorem d_PF_count_80 : decode b_PF_count 80 = .ok (.iconst 1, 1) := by decide +kernel
theorem d_PF_count_81 : decode b_PF_count 81 = .ok (.goto 4, 3) := by decide +kernel
theorem d_PF_count_84 : decode b_PF_count 84 = .ok (.iconst 0, 1) := by decide +kernel
theorem d_PF_count_85 : decode b_PF_count 85 = .ok (.ireturn, 1) := by decide +kernel
theorem d_PF_count_86 : decode b_PF_count 86 = .ok (.iconst (-1), 1) := by decide +kernel
theorem d_PF_count_87 : decode b_PF_count 87 = .ok (.ireturn, 1) := by decide +kernel
theorem d_PF_size_0 : decode b_PF_size 0 = .ok (.aload_n 0, 1) := by decide +kernel
theorem d_PF_size_1 : decode b_PF_size 1 = .ok (.iload_n 1, 1) := by decide +kernel
theorem d_PF_size_2 : decode b_PF_size 2 = .ok (.invokevirtual 105, 3) := by decide +kernel
theorem d_PF_size_5 : decode b_PF_size 5 = .ok (.astore_n 3, 1) := by decide +kernel
theorem d_PF_size_6 : decode b_PF_size 6 = .ok (.aload_n 3, 1) := by decide +kernel
theorem d_PF_size_7 : decode b_PF_size 7 = .ok (.ifnonnull 5, 3) := by decide +kernel
theorem d_PF_size_10 : decode b_PF_size 10 = .ok (.iconst 0, 1) := by decide +kernel
theorem d_PF_size_11 : decode b_PF_size 11 = .ok (.ireturn, 1) := by decide +kernel
theorem d_PF_size_12 : decode b_PF_size 12 = .ok (.iload_n 2, 1) := by decide +kernel
theorem d_PF_size_13 : decode b_PF_size 13 = .ok (.tableswitch 42 0 2 #[27, 32, 37], 27) := by decide +kernel
theorem d_PF_size_40 : decode b_PF_size 40 = .ok (.aload_n 3, 1) := by decide +kernel
theorem d_PF_size_41 : decode b_PF_size 41 = .ok (.getfield 110, 3) := by decide +kernel
theorem d_PF_size_44 : decode b_PF_size 44 = .ok (.ireturn, 1) := by decide +kernel
theorem d_PF_size_45 : decode b_PF_size 45 = .ok (.aload_n 3, 1) := by decide +kernel
theorem d_PF_size_46 : decode b_PF_size 46 = .ok (.getfield 113, 3) := by decide +kernel
theorem d_PF_size_49 : decode b_PF_size 49 = .ok (.ireturn, 1) := by decide +kernel
theorem d_PF_size_50 : decode b_PF_size 50 = .ok (.aload_n 3, 1) := by decide +kernel
theorem d_PF_size_51 : decode b_PF_size 51 = .ok (.getfield 116, 3) := by decide +kernel
theorem d_PF_size_54 : decode b_PF_size 54 = .ok (.ireturn, 1) := by decide +kernel
theorem d_PF_size_55 : decode b_PF_size 55 = .ok (.iconst 0, 1) := by decide +kernel
theorem d_PF_size_56 : decode b_PF_size 56 = .ok (.ireturn, 1) := by decide +kernel
theorem d_PF_isSize_0 : decode b_PF_isSize 0 = .ok (.lload_n 0, 1) := by decide +kernel
theorem d_PF_isSize_1 : decode b_PF_isSize 1 = .ok (.ldc2_w 188, 3) := by decide +kernel
theorem d_PF_isSize_4 : decode b_PF_isSize 4 = .ok (.lcmp, 1) := by decide +kernel
theorem d_PF_isSize_5 : decode b_PF_isSize 5 = .ok (.ifCond .lt 15, 3) := by decide +kernel
theorem d_PF_isSize_8 : decode b_PF_isSize 8 = .ok (.lload_n 0, 1) := by decide +kernel
theorem d_PF_isSize_9 : decode b_PF_isSize 9 = .ok (.ldc2_w 190, 3) := by decide +kernel
theorem d_PF_isSize_12 : decode b_PF_isSize 12 = .ok (.lcmp, 1) := by decide +kernel
theorem d_PF_isSize_13 : decode b_PF_isSize 13 = .ok (.ifCond .gt 7, 3) := by decide +kernel
theorem d_PF_isSize_16 : decode b_PF_isSize 16 = .ok (.iconst 1, 1) := by decide +kernel
theorem d_PF_isSize_17 : decode b_PF_isSize 17 = .ok (.goto 4, 3) := by decide +kernel
theorem d_PF_isSize_20 : decode b_PF_isSize 20 = .ok (.iconst 0, 1) := by decide +kernel
theorem d_PF_isSize_21 : decode b_PF_isSize 21 = .ok (.ireturn, 1) := by decide +kernel
theorem d_PF_areSizes_0 : decode b_PF_areSizes 0 = .ok (.lload_n 0, 1) := by decide +kernel
theorem d_PF_areSizes_1 : decode b_PF_areSizes 1 = .ok (.invokestatic 87, 3) := by decide +kernel
theorem d_PF_areSizes_4 : decode b_PF_areSizes 4 = .ok (.ifCond .eq 22, 3) := by decide +kernel
theorem d_PF_areSizes_7 : decode b_PF_areSizes 7 = .ok (.lload_n 2, 1) := by decide +kernel
theorem d_PF_areSizes_8 : decode b_PF_areSizes 8 = .ok (.invokestatic 87, 3) := by decide +kernel
theorem d_PF_areSizes_11 : decode b_PF_areSizes 11 = .ok (.ifCond .eq 15, 3) := by decide +kernel
theorem d_PF_areSizes_14 : decode b_PF_areSizes 14 = .ok (.lload 4, 2) := by decide +kernel
theorem d_PF_areSizes_16 : decode b_PF_areSizes 16 = .ok (.invokestatic 87, 3) := by decide +kernel
theorem d_PF_areSizes_19 : decode b_PF_areSizes 19 = .ok (.ifCond .eq 7, 3) := by decide +kernel
theorem d_PF_areSizes_22 : decode b_PF_areSizes 22 = .ok (.iconst 1, 1) := by decide +kernel
theorem d_PF_areSizes_23 : decode b_PF_areSizes 23 = .ok (.goto 4, 3) := by decide +kernel
theorem d_PF_areSizes_26 : decode b_PF_areSizes 26 = .ok (.iconst 0, 1) := by decide +kernel
theorem d_PF_areSizes_27 : decode b_PF_areSizes 27 = .ok (.ireturn, 1) := by decide +kernel
theorem d_PF_isFont_0 : decode b_PF_isFont 0 = .ok (.iload_n 0, 1) := by decide +kernel
theorem d_PF_isFont_1 : decode b_PF_isFont 1 = .ok (.ifCond .lt 13, 3) := by decide +kernel
theorem d_PF_isFont_4 : decode b_PF_isFont 4 = .ok (.iload_n 0, 1) := by decide +kernel
theorem d_PF_isFont_5 : decode b_PF_isFont 5 = .ok (.bipush 32, 2) := by decide +kernel
theorem d_PF_isFont_7 : decode b_PF_isFont 7 = .ok (.if_icmp .ge 7, 3) := by decide +kernel
theorem d_PF_isFont_10 : decode b_PF_isFont 10 = .ok (.iconst 1, 1) := by decide +kernel
theorem d_PF_isFont_11 : decode b_PF_isFont 11 = .ok (.goto 4, 3) := by decide +kernel
theorem d_PF_isFont_14 : decode b_PF_isFont 14 = .ok (.iconst 0, 1) := by decide +kernel
theorem d_PF_isFont_15 : decode b_PF_isFont 15 = .ok (.ireturn, 1) := by decide +kernel
theorem d_PF_isRegister_0 : decode b_PF_isRegister 0 = .ok (.iload_n 0, 1) := by decide +kernel
theorem d_PF_isRegister_1 : decode b_PF_isRegister 1 = .ok (.ifCond .lt 13, 3) := by decide +kernel
theorem d_PF_isRegister_4 : decode b_PF_isRegister 4 = .ok (.iload_n 0, 1) := by decide +kernel
theorem d_PF_isRegister_5 : decode b_PF_isRegister 5 = .ok (.bipush 8, 2) := by decide +kernel
theorem d_PF_isRegister_7 : decode b_PF_isRegister 7 = .ok (.if_icmp .ge 7, 3) := by decide +kernel
theorem d_PF_isRegister_10 : decode b_PF_isRegister 10 = .ok (.iconst 1, 1) := by decide +kernel
theorem d_PF_isRegister_11 : decode b_PF_isRegister 11 = .ok (.goto 4, 3) := by decide +kernel
theorem d_PF_isRegister_14 : decode b_PF_isRegister 14 = .ok (.iconst 0, 1) := by decide +kernel
theorem d_PF_isRegister_15 : decode b_PF_isRegister 15 = .ok (.ireturn, 1) := by decide +kernel
theorem d_PF_boxOf_0 : decode b_PF_boxOf 0 = .ok (.iload_n 1, 1) := by decide +kernel
theorem d_PF_boxOf_1 : decode b_PF_boxOf 1 = .ok (.invokestatic 91, 3) := by decide +kernel
theorem d_PF_boxOf_4 : decode b_PF_boxOf 4 = .ok (.ifCond .eq 12, 3) := by decide +kernel
theorem d_PF_boxOf_7 : decode b_PF_boxOf 7 = .ok (.aload_n 0, 1) := by decide +kernel
theorem d_PF_boxOf_8 : decode b_PF_boxOf 8 = .ok (.getfield 11, 3) := by decide +kernel
theorem d_PF_boxOf_11 : decode b_PF_boxOf 11 = .ok (.iload_n 1, 1) := by decide +kernel
theorem d_PF_boxOf_12 : decode b_PF_boxOf 12 = .ok (.aaload, 1) := by decide +kernel
theorem d_PF_boxOf_13 : decode b_PF_boxOf 13 = .ok (.goto 4, 3) := by decide +kernel
theorem d_PF_boxOf_16 : decode b_PF_boxOf 16 = .ok (.aconst_null, 1) := by decide +kernel
theorem d_PF_boxOf_17 : decode b_PF_boxOf 17 = .ok (.areturn, 1) := by decide +kernel
theorem d_PF_dropBox_0 : decode b_PF_dropBox 0 = .ok (.aload_n 0, 1) := by decide +kernel
theorem d_PF_dropBox_1 : decode b_PF_dropBox 1 = .ok (.iload_n 1, 1) := by decide +kernel
theorem d_PF_dropBox_2 : decode b_PF_dropBox 2 = .ok (.invokevirtual 105, 3) := by decide +kernel
theorem d_PF_dropBox_5 : decode b_PF_dropBox 5 = .ok (.astore_n 2, 1) := by decide +kernel
theorem d_PF_dropBox_6 : decode b_PF_dropBox 6 = .ok (.aload_n 2, 1) := by decide +kernel
theorem d_PF_dropBox_7 : decode b_PF_dropBox 7 = .ok (.ifnull 23, 3) := by decide +kernel
theorem d_PF_dropBox_10 : decode b_PF_dropBox 10 = .ok (.aload_n 0, 1) := by decide +kernel
theorem d_PF_dropBox_11 : decode b_PF_dropBox 11 = .ok (.dup, 1) := by decide +kernel
theorem d_PF_dropBox_12 : decode b_PF_dropBox 12 = .ok (.getfield 62, 3) := by decide +kernel
theorem d_PF_dropBox_15 : decode b_PF_dropBox 15 = .ok (.aload_n 2, 1) := by decide +kernel
theorem d_PF_dropBox_16 : decode b_PF_dropBox 16 = .ok (.getfield 109, 3) := by decide +kernel
theorem d_PF_dropBox_19 : decode b_PF_dropBox 19 = .ok (.isub, 1) := by decide +kernel
theorem d_PF_dropBox_20 : decode b_PF_dropBox 20 = .ok (.putfield 62, 3) := by decide +kernel
theorem d_PF_dropBox_23 : decode b_PF_dropBox 23 = .ok (.aload_n 0, 1) := by decide +kernel
theorem d_PF_dropBox_24 : decode b_PF_dropBox 24 = .ok (.getfield 11, 3) := by decide +kernel
theorem d_PF_dropBox_27 : decode b_PF_dropBox 27 = .ok (.iload_n 1, 1) := by decide +kernel
theorem d_PF_dropBox_28 : decode b_PF_dropBox 28 = .ok (.aconst_null, 1) := by decide +kernel
theorem d_PF_dropBox_29 : decode b_PF_dropBox 29 = .ok (.aastore, 1) := by decide +kernel
theorem d_PF_dropBox_30 : decode b_PF_dropBox 30 = .ok (.return_, 1) := by decide +kernel
theorem d_PF_writePage_0 : decode b_PF_writePage 0 = .ok (.aload_n 0, 1) := by decide +kernel
theorem d_PF_writePage_1 : decode b_PF_writePage 1 = .ok (.getfield 26, 3) := by decide +kernel
theorem d_PF_writePage_4 : decode b_PF_writePage 4 = .ok (.getfield 136, 3) := by decide +kernel
theorem d_PF_writePage_7 : decode b_PF_writePage 7 = .ok (.istore_n 2, 1) := by decide +kernel
theorem d_PF_writePage_8 : decode b_PF_writePage 8 = .ok (.aload_n 0, 1) := by decide +kernel
theorem d_PF_writePage_9 : decode b_PF_writePage 9 = .ok (.getfield 31, 3) := by decide +kernel
theorem d_PF_writePage_12 : decode b_PF_writePage 12 = .ok (.getfield 192, 3) := by decide +kernel
theorem d_PF_writePage_15 : decode b_PF_writePage 15 = .ok (.istore_n 3, 1) := by decide +kernel
theorem d_PF_writePage_16 : decode b_PF_writePage 16 = .ok (.aload_n 0, 1) := by decide +kernel
theorem d_PF_writePage_17 : decode b_PF_writePage 17 = .ok (.invokevirtual 155, 3) := by decide +kernel
theorem d_PF_writePage_20 : decode b_PF_writePage 20 = .ok (.aload_n 0, 1) := by decide +kernel
theorem d_PF_writePage_21 : decode b_PF_writePage 21 = .ok (.getfield 26, 3) := by decide +kernel
theorem d_PF_writePage_24 : decode b_PF_writePage 24 = .ok (.getfield 136, 3) := by decide +kernel
theorem d_PF_writePage_27 : decode b_PF_writePage 27 = .ok (.istore 4, 2) := by decide +kernel
theorem d_PF_writePage_29 : decode b_PF_writePage 29 = .ok (.aload_n 0, 1) := by decide +kernel
theorem d_PF_writePage_30 : decode b_PF_writePage 30 = .ok (.getfield 26, 3) := by decide +kernel
theorem d_PF_writePage_33 : decode b_PF_writePage 33 = .ok (.sipush 139, 3) := by decide +kernel
theorem d_PF_writePage_36 : decode b_PF_writePage 36 = .ok (.iconst 1, 1) := by decide +kernel
theorem d_PF_writePage_37 : decode b_PF_writePage 37 = .ok (.invokevirtual 158, 3) := by decide +kernel
theorem d_PF_writePage_40 : decode b_PF_writePage 40 = .ok (.aload_n 0, 1) := by decide +kernel
theorem d_PF_writePage_41 : decode b_PF_writePage 41 = .ok (.getfield 26, 3) := by decide +kernel
theorem d_PF_writePage_44 : decode b_PF_writePage 44 = .ok (.aload_n 0, 1) := by decide +kernel
theorem d_PF_writePage_45 : decode b_PF_writePage 45 = .ok (.getfield 174, 3) := by decide +kernel
theorem d_PF_writePage_48 : decode b_PF_writePage 48 = .ok (.iconst 1, 1) := by decide +kernel
theorem d_PF_writePage_49 : decode b_PF_writePage 49 = .ok (.iadd, 1) := by decide +kernel
theorem d_PF_writePage_50 : decode b_PF_writePage 50 = .ok (.iconst 4, 1) := by decide +kernel
theorem d_PF_writePage_51 : decode b_PF_writePage 51 = .ok (.invokevirtual 158, 3) := by decide +kernel
theorem d_PF_writePage_54 : decode b_PF_writePage 54 = .ok (.iconst 0, 1) := by decide +kernel
theorem d_PF_writePage_55 : decode b_PF_writePage 55 = .ok (.istore 5, 2) := by decide +kernel
theorem d_PF_writePage_57 : decode b_PF_writePage 57 = .ok (.iload 5, 2) := by decide +kernel
theorem d_PF_writePage_59 : decode b_PF_writePage 59 = .ok (.bipush 9, 2) := by decide +kernel
theorem d_PF_writePage_61 : decode b_PF_writePage 61 = .ok (.if_icmp .ge 18, 3) := by decide +kernel
theorem d_PF_writePage_64 : decode b_PF_writePage 64 = .ok (.aload_n 0, 1) := by decide +kernel
theorem d_PF_writePage_65 : decode b_PF_writePage 65 = .ok (.getfield 26, 3) := by decide +kernel
theorem d_PF_writePage_68 : decode b_PF_writePage 68 = .ok (.iconst 0, 1) := by decide +kernel
theorem d_PF_writePage_69 : decode b_PF_writePage 69 = .ok (.iconst 4, 1) := by decide +kernel
theorem d_PF_writePage_70 : decode b_PF_writePage 70 = .ok (.invokevirtual 158, 3) := by decide +kernel
theorem d_PF_writePage_73 : decode b_PF_writePage 73 = .ok (.iinc 5 1, 3) := by decide +kernel
theorem d_PF_writePage_76 : decode b_PF_writePage 76 = .ok (.goto (-19), 3) := by decide +kernel
theorem d_PF_writePage_79 : decode b_PF_writePage 79 = .ok (.aload_n 0, 1) := by decide +kernel
theorem d_PF_writePage_80 : decode b_PF_writePage 80 = .ok (.getfield 26, 3) := by decide +kernel
theorem d_PF_writePage_83 : decode b_PF_writePage 83 = .ok (.aload_n 0, 1) := by decide +kernel
theorem d_PF_writePage_84 : decode b_PF_writePage 84 = .ok (.getfield 32, 3) := by decide +kernel
theorem d_PF_writePage_87 : decode b_PF_writePage 87 = .ok (.iconst 4, 1) := by decide +kernel
theorem d_PF_writePage_88 : decode b_PF_writePage 88 = .ok (.invokevirtual 158, 3) := by decide +kernel
theorem d_PF_writePage_91 : decode b_PF_writePage 91 = .ok (.aload_n 0, 1) := by decide +kernel
theorem d_PF_writePage_92 : decode b_PF_writePage 92 = .ok (.getfield 18, 3) := by decide +kernel
theorem d_PF_writePage_95 : decode b_PF_writePage 95 = .ok (.aload_n 1, 1) := by decide +kernel
end
section
theorem d_PF_writePage_96 : decode b_PF_writePage 96 = .ok (.invokevirtual 195, 3) := by decide +kernel
theorem d_PF_writePage_99 : decode b_PF_writePage 99 = .ok (.ifCond .ne 21, 3) := by decide +kernel
theorem d_PF_writePage_102 : decode b_PF_writePage 102 = .ok (.aload_n 0, 1) := by decide +kernel
theorem d_PF_writePage_103 : decode b_PF_writePage 103 = .ok (.getfield 26, 3) := by decide +kernel
theorem d_PF_writePage_106 : decode b_PF_writePage 106 = .ok (.iload_n 2, 1) := by decide +kernel
theorem d_PF_writePage_107 : decode b_PF_writePage 107 = .ok (.invokevirtual 198, 3) := by decide +kernel
theorem d_PF_writePage_110 : decode b_PF_writePage 110 = .ok (.aload_n 0, 1) := by decide +kernel
theorem d_PF_writePage_111 : decode b_PF_writePage 111 = .ok (.getfield 31, 3) := by decide +kernel
theorem d_PF_writePage_114 : decode b_PF_writePage 114 = .ok (.iload_n 3, 1) := by decide +kernel
theorem d_PF_writePage_115 : decode b_PF_writePage 115 = .ok (.putfield 192, 3) := by decide +kernel
theorem d_PF_writePage_118 : decode b_PF_writePage 118 = .ok (.iconst 0, 1) := by decide +kernel
theorem d_PF_writePage_119 : decode b_PF_writePage 119 = .ok (.ireturn, 1) := by decide +kernel
theorem d_PF_writePage_120 : decode b_PF_writePage 120 = .ok (.aload_n 0, 1) := by decide +kernel
theorem d_PF_writePage_121 : decode b_PF_writePage 121 = .ok (.getfield 26, 3) := by decide +kernel
theorem d_PF_writePage_124 : decode b_PF_writePage 124 = .ok (.sipush 140, 3) := by decide +kernel
theorem d_PF_writePage_127 : decode b_PF_writePage 127 = .ok (.iconst 1, 1) := by decide +kernel
theorem d_PF_writePage_128 : decode b_PF_writePage 128 = .ok (.invokevirtual 158, 3) := by decide +kernel
theorem d_PF_writePage_131 : decode b_PF_writePage 131 = .ok (.aload_n 0, 1) := by decide +kernel
theorem d_PF_writePage_132 : decode b_PF_writePage 132 = .ok (.dup, 1) := by decide +kernel
theorem d_PF_writePage_133 : decode b_PF_writePage 133 = .ok (.getfield 174, 3) := by decide +kernel
theorem d_PF_writePage_136 : decode b_PF_writePage 136 = .ok (.iconst 1, 1) := by decide +kernel
theorem d_PF_writePage_137 : decode b_PF_writePage 137 = .ok (.iadd, 1) := by decide +kernel
theorem d_PF_writePage_138 : decode b_PF_writePage 138 = .ok (.putfield 174, 3) := by decide +kernel
theorem d_PF_writePage_141 : decode b_PF_writePage 141 = .ok (.aload_n 0, 1) := by decide +kernel
theorem d_PF_writePage_142 : decode b_PF_writePage 142 = .ok (.iload 4, 2) := by decide +kernel
theorem d_PF_writePage_144 : decode b_PF_writePage 144 = .ok (.putfield 32, 3) := by decide +kernel
theorem d_PF_writePage_147 : decode b_PF_writePage 147 = .ok (.aload_n 0, 1) := by decide +kernel
theorem d_PF_writePage_148 : decode b_PF_writePage 148 = .ok (.aload_n 0, 1) := by decide +kernel
theorem d_PF_writePage_149 : decode b_PF_writePage 149 = .ok (.getfield 165, 3) := by decide +kernel
theorem d_PF_writePage_152 : decode b_PF_writePage 152 = .ok (.aload_n 1, 1) := by decide +kernel
theorem d_PF_writePage_153 : decode b_PF_writePage 153 = .ok (.getfield 113, 3) := by decide +kernel
theorem d_PF_writePage_156 : decode b_PF_writePage 156 = .ok (.aload_n 1, 1) := by decide +kernel
theorem d_PF_writePage_157 : decode b_PF_writePage 157 = .ok (.getfield 116, 3) := by decide +kernel
theorem d_PF_writePage_160 : decode b_PF_writePage 160 = .ok (.iadd, 1) := by decide +kernel
theorem d_PF_writePage_161 : decode b_PF_writePage 161 = .ok (.invokestatic 201, 3) := by decide +kernel
theorem d_PF_writePage_164 : decode b_PF_writePage 164 = .ok (.putfield 165, 3) := by decide +kernel
theorem d_PF_writePage_167 : decode b_PF_writePage 167 = .ok (.aload_n 0, 1) := by decide +kernel
theorem d_PF_writePage_168 : decode b_PF_writePage 168 = .ok (.aload_n 0, 1) := by decide +kernel
theorem d_PF_writePage_169 : decode b_PF_writePage 169 = .ok (.getfield 168, 3) := by decide +kernel
theorem d_PF_writePage_172 : decode b_PF_writePage 172 = .ok (.aload_n 1, 1) := by decide +kernel
theorem d_PF_writePage_173 : decode b_PF_writePage 173 = .ok (.getfield 110, 3) := by decide +kernel
theorem d_PF_writePage_176 : decode b_PF_writePage 176 = .ok (.invokestatic 201, 3) := by decide +kernel
theorem d_PF_writePage_179 : decode b_PF_writePage 179 = .ok (.putfield 168, 3) := by decide +kernel
theorem d_PF_writePage_182 : decode b_PF_writePage 182 = .ok (.aload_n 0, 1) := by decide +kernel
theorem d_PF_writePage_183 : decode b_PF_writePage 183 = .ok (.aload_n 0, 1) := by decide +kernel
theorem d_PF_writePage_184 : decode b_PF_writePage 184 = .ok (.getfield 171, 3) := by decide +kernel
theorem d_PF_writePage_187 : decode b_PF_writePage 187 = .ok (.aload_n 0, 1) := by decide +kernel
theorem d_PF_writePage_188 : decode b_PF_writePage 188 = .ok (.getfield 18, 3) := by decide +kernel
theorem d_PF_writePage_191 : decode b_PF_writePage 191 = .ok (.getfield 207, 3) := by decide +kernel
theorem d_PF_writePage_194 : decode b_PF_writePage 194 = .ok (.invokestatic 201, 3) := by decide +kernel
theorem d_PF_writePage_197 : decode b_PF_writePage 197 = .ok (.putfield 171, 3) := by decide +kernel
theorem d_PF_writePage_200 : decode b_PF_writePage 200 = .ok (.iconst 1, 1) := by decide +kernel
theorem d_PF_writePage_201 : decode b_PF_writePage 201 = .ok (.ireturn, 1) := by decide +kernel
theorem d_PF_writeBeginning_0 : decode b_PF_writeBeginning 0 = .ok (.aload_n 0, 1) := by decide +kernel
theorem d_PF_writeBeginning_1 : decode b_PF_writeBeginning 1 = .ok (.getfield 26, 3) := by decide +kernel
theorem d_PF_writeBeginning_4 : decode b_PF_writeBeginning 4 = .ok (.getfield 136, 3) := by decide +kernel
theorem d_PF_writeBeginning_7 : decode b_PF_writeBeginning 7 = .ok (.ifCond .le 4, 3) := by decide +kernel
theorem d_PF_writeBeginning_10 : decode b_PF_writeBeginning 10 = .ok (.return_, 1) := by decide +kernel
theorem d_PF_writeBeginning_11 : decode b_PF_writeBeginning 11 = .ok (.aload_n 0, 1) := by decide +kernel
theorem d_PF_writeBeginning_12 : decode b_PF_writeBeginning 12 = .ok (.getfield 26, 3) := by decide +kernel
theorem d_PF_writeBeginning_15 : decode b_PF_writeBeginning 15 = .ok (.sipush 247, 3) := by decide +kernel
theorem d_PF_writeBeginning_18 : decode b_PF_writeBeginning 18 = .ok (.iconst 1, 1) := by decide +kernel
theorem d_PF_writeBeginning_19 : decode b_PF_writeBeginning 19 = .ok (.invokevirtual 158, 3) := by decide +kernel
theorem d_PF_writeBeginning_22 : decode b_PF_writeBeginning 22 = .ok (.aload_n 0, 1) := by decide +kernel
theorem d_PF_writeBeginning_23 : decode b_PF_writeBeginning 23 = .ok (.getfield 26, 3) := by decide +kernel
theorem d_PF_writeBeginning_26 : decode b_PF_writeBeginning 26 = .ok (.iconst 2, 1) := by decide +kernel
theorem d_PF_writeBeginning_27 : decode b_PF_writeBeginning 27 = .ok (.iconst 1, 1) := by decide +kernel
theorem d_PF_writeBeginning_28 : decode b_PF_writeBeginning 28 = .ok (.invokevirtual 158, 3) := by decide +kernel
theorem d_PF_writeBeginning_31 : decode b_PF_writeBeginning 31 = .ok (.aload_n 0, 1) := by decide +kernel
theorem d_PF_writeBeginning_32 : decode b_PF_writeBeginning 32 = .ok (.invokevirtual 162, 3) := by decide +kernel
theorem d_PF_writeBeginning_35 : decode b_PF_writeBeginning 35 = .ok (.aload_n 0, 1) := by decide +kernel
theorem d_PF_writeBeginning_36 : decode b_PF_writeBeginning 36 = .ok (.getfield 26, 3) := by decide +kernel
theorem d_PF_writeBeginning_39 : decode b_PF_writeBeginning 39 = .ok (.iconst 0, 1) := by decide +kernel
theorem d_PF_writeBeginning_40 : decode b_PF_writeBeginning 40 = .ok (.iconst 1, 1) := by decide +kernel
theorem d_PF_writeBeginning_41 : decode b_PF_writeBeginning 41 = .ok (.invokevirtual 158, 3) := by decide +kernel
theorem d_PF_writeBeginning_44 : decode b_PF_writeBeginning 44 = .ok (.return_, 1) := by decide +kernel
theorem d_PF_writeUnits_0 : decode b_PF_writeUnits 0 = .ok (.aload_n 0, 1) := by decide +kernel
theorem d_PF_writeUnits_1 : decode b_PF_writeUnits 1 = .ok (.getfield 26, 3) := by decide +kernel
theorem d_PF_writeUnits_4 : decode b_PF_writeUnits 4 = .ok (.ldc 208, 2) := by decide +kernel
theorem d_PF_writeUnits_6 : decode b_PF_writeUnits 6 = .ok (.iconst 4, 1) := by decide +kernel
theorem d_PF_writeUnits_7 : decode b_PF_writeUnits 7 = .ok (.invokevirtual 158, 3) := by decide +kernel
theorem d_PF_writeUnits_10 : decode b_PF_writeUnits 10 = .ok (.aload_n 0, 1) := by decide +kernel
theorem d_PF_writeUnits_11 : decode b_PF_writeUnits 11 = .ok (.getfield 26, 3) := by decide +kernel
theorem d_PF_writeUnits_14 : decode b_PF_writeUnits 14 = .ok (.ldc 209, 2) := by decide +kernel
theorem d_PF_writeUnits_16 : decode b_PF_writeUnits 16 = .ok (.iconst 4, 1) := by decide +kernel
theorem d_PF_writeUnits_17 : decode b_PF_writeUnits 17 = .ok (.invokevirtual 158, 3) := by decide +kernel
theorem d_PF_writeUnits_20 : decode b_PF_writeUnits 20 = .ok (.aload_n 0, 1) := by decide +kernel
theorem d_PF_writeUnits_21 : decode b_PF_writeUnits 21 = .ok (.getfield 26, 3) := by decide +kernel
theorem d_PF_writeUnits_24 : decode b_PF_writeUnits 24 = .ok (.sipush 1000, 3) := by decide +kernel
theorem d_PF_writeUnits_27 : decode b_PF_writeUnits 27 = .ok (.iconst 4, 1) := by decide +kernel
theorem d_PF_writeUnits_28 : decode b_PF_writeUnits 28 = .ok (.invokevirtual 158, 3) := by decide +kernel
theorem d_PF_writeUnits_31 : decode b_PF_writeUnits 31 = .ok (.return_, 1) := by decide +kernel
end
section
theorem d_Mod_init_0 : decode b_Mod_init 0 = .ok (.aload_n 0, 1) := by decide +kernel
theorem d_Mod_init_1 : decode b_Mod_init 1 = .ok (.invokespecial 1, 3) := by decide +kernel
theorem d_Mod_init_4 : decode b_Mod_init 4 = .ok (.aload_n 0, 1) := by decide +kernel
theorem d_Mod_init_5 : decode b_Mod_init 5 = .ok (.sipush 6200, 3) := by decide +kernel
theorem d_Mod_init_8 : decode b_Mod_init 8 = .ok (.newarray .int, 2) := by decide +kernel
theorem d_Mod_init_10 : decode b_Mod_init 10 = .ok (.putfield 7, 3) := by decide +kernel
theorem d_Mod_init_13 : decode b_Mod_init 13 = .ok (.aload_n 0, 1) := by decide +kernel
theorem d_Mod_init_14 : decode b_Mod_init 14 = .ok (.sipush 6200, 3) := by decide +kernel
theorem d_Mod_init_17 : decode b_Mod_init 17 = .ok (.newarray .int, 2) := by decide +kernel
theorem d_Mod_init_19 : decode b_Mod_init 19 = .ok (.putfield 13, 3) := by decide +kernel
theorem d_Mod_init_22 : decode b_Mod_init 22 = .ok (.aload_n 0, 1) := by decide +kernel
theorem d_Mod_init_23 : decode b_Mod_init 23 = .ok (.sipush 6200, 3) := by decide +kernel
theorem d_Mod_init_26 : decode b_Mod_init 26 = .ok (.newarray .int, 2) := by decide +kernel
theorem d_Mod_init_28 : decode b_Mod_init 28 = .ok (.putfield 16, 3) := by decide +kernel
theorem d_Mod_init_31 : decode b_Mod_init 31 = .ok (.aload_n 0, 1) := by decide +kernel
theorem d_Mod_init_32 : decode b_Mod_init 32 = .ok (.sipush 6200, 3) := by decide +kernel
theorem d_Mod_init_35 : decode b_Mod_init 35 = .ok (.newarray .int, 2) := by decide +kernel
theorem d_Mod_init_37 : decode b_Mod_init 37 = .ok (.putfield 19, 3) := by decide +kernel
theorem d_Mod_init_40 : decode b_Mod_init 40 = .ok (.aload_n 0, 1) := by decide +kernel
theorem d_Mod_init_41 : decode b_Mod_init 41 = .ok (.sipush 6200, 3) := by decide +kernel
theorem d_Mod_init_44 : decode b_Mod_init 44 = .ok (.newarray .int, 2) := by decide +kernel
theorem d_Mod_init_46 : decode b_Mod_init 46 = .ok (.putfield 22, 3) := by decide +kernel
theorem d_Mod_init_49 : decode b_Mod_init 49 = .ok (.aload_n 0, 1) := by decide +kernel
theorem d_Mod_init_50 : decode b_Mod_init 50 = .ok (.sipush 6200, 3) := by decide +kernel
theorem d_Mod_init_53 : decode b_Mod_init 53 = .ok (.newarray .int, 2) := by decide +kernel
theorem d_Mod_init_55 : decode b_Mod_init 55 = .ok (.putfield 25, 3) := by decide +kernel
theorem d_Mod_init_58 : decode b_Mod_init 58 = .ok (.aload_n 0, 1) := by decide +kernel
theorem d_Mod_init_59 : decode b_Mod_init 59 = .ok (.sipush 6200, 3) := by decide +kernel
theorem d_Mod_init_62 : decode b_Mod_init 62 = .ok (.newarray .int, 2) := by decide +kernel
theorem d_Mod_init_64 : decode b_Mod_init 64 = .ok (.putfield 28, 3) := by decide +kernel
theorem d_Mod_init_67 : decode b_Mod_init 67 = .ok (.aload_n 0, 1) := by decide +kernel
theorem d_Mod_init_68 : decode b_Mod_init 68 = .ok (.bipush 101, 2) := by decide +kernel
theorem d_Mod_init_70 : decode b_Mod_init 70 = .ok (.newarray .int, 2) := by decide +kernel
theorem d_Mod_init_72 : decode b_Mod_init 72 = .ok (.putfield 31, 3) := by decide +kernel
theorem d_Mod_init_75 : decode b_Mod_init 75 = .ok (.aload_n 0, 1) := by decide +kernel
theorem d_Mod_init_76 : decode b_Mod_init 76 = .ok (.bipush 101, 2) := by decide +kernel
theorem d_Mod_init_78 : decode b_Mod_init 78 = .ok (.newarray .boolean, 2) := by decide +kernel
theorem d_Mod_init_80 : decode b_Mod_init 80 = .ok (.putfield 34, 3) := by decide +kernel
theorem d_Mod_init_83 : decode b_Mod_init 83 = .ok (.aload_n 0, 1) := by decide +kernel
theorem d_Mod_init_84 : decode b_Mod_init 84 = .ok (.bipush 8, 2) := by decide +kernel
theorem d_Mod_init_86 : decode b_Mod_init 86 = .ok (.newarray .int, 2) := by decide +kernel
theorem d_Mod_init_88 : decode b_Mod_init 88 = .ok (.putfield 38, 3) := by decide +kernel
theorem d_Mod_init_91 : decode b_Mod_init 91 = .ok (.aload_n 0, 1) := by decide +kernel
theorem d_Mod_init_92 : decode b_Mod_init 92 = .ok (.bipush 32, 2) := by decide +kernel
theorem d_Mod_init_94 : decode b_Mod_init 94 = .ok (.newarray .int, 2) := by decide +kernel
theorem d_Mod_init_96 : decode b_Mod_init 96 = .ok (.putfield 41, 3) := by decide +kernel
theorem d_Mod_init_99 : decode b_Mod_init 99 = .ok (.aload_n 0, 1) := by decide +kernel
theorem d_Mod_init_100 : decode b_Mod_init 100 = .ok (.bipush 32, 2) := by decide +kernel
theorem d_Mod_init_102 : decode b_Mod_init 102 = .ok (.newarray .int, 2) := by decide +kernel
theorem d_Mod_init_104 : decode b_Mod_init 104 = .ok (.putfield 44, 3) := by decide +kernel
theorem d_Mod_init_107 : decode b_Mod_init 107 = .ok (.aload_n 0, 1) := by decide +kernel
theorem d_Mod_init_108 : decode b_Mod_init 108 = .ok (.bipush 32, 2) := by decide +kernel
theorem d_Mod_init_110 : decode b_Mod_init 110 = .ok (.newarray .boolean, 2) := by decide +kernel
theorem d_Mod_init_112 : decode b_Mod_init 112 = .ok (.putfield 47, 3) := by decide +kernel
theorem d_Mod_init_115 : decode b_Mod_init 115 = .ok (.aload_n 0, 1) := by decide +kernel
theorem d_Mod_init_116 : decode b_Mod_init 116 = .ok (.bipush 32, 2) := by decide +kernel
theorem d_Mod_init_118 : decode b_Mod_init 118 = .ok (.newarray .boolean, 2) := by decide +kernel
theorem d_Mod_init_120 : decode b_Mod_init 120 = .ok (.putfield 50, 3) := by decide +kernel
theorem d_Mod_init_123 : decode b_Mod_init 123 = .ok (.aload_n 0, 1) := by decide +kernel
theorem d_Mod_init_124 : decode b_Mod_init 124 = .ok (.ldc 53, 2) := by decide +kernel
theorem d_Mod_init_126 : decode b_Mod_init 126 = .ok (.newarray .byte, 2) := by decide +kernel
theorem d_Mod_init_128 : decode b_Mod_init 128 = .ok (.putfield 54, 3) := by decide +kernel
theorem d_Mod_init_131 : decode b_Mod_init 131 = .ok (.aload_n 0, 1) := by decide +kernel
theorem d_Mod_init_132 : decode b_Mod_init 132 = .ok (.iconst (-1), 1) := by decide +kernel
theorem d_Mod_init_133 : decode b_Mod_init 133 = .ok (.putfield 58, 3) := by decide +kernel
theorem d_Mod_init_136 : decode b_Mod_init 136 = .ok (.aload_n 0, 1) := by decide +kernel
theorem d_Mod_init_137 : decode b_Mod_init 137 = .ok (.sipush 3100, 3) := by decide +kernel
theorem d_Mod_init_140 : decode b_Mod_init 140 = .ok (.newarray .int, 2) := by decide +kernel
theorem d_Mod_init_142 : decode b_Mod_init 142 = .ok (.putfield 62, 3) := by decide +kernel
theorem d_Mod_init_145 : decode b_Mod_init 145 = .ok (.aload_n 0, 1) := by decide +kernel
theorem d_Mod_init_146 : decode b_Mod_init 146 = .ok (.sipush 3100, 3) := by decide +kernel
theorem d_Mod_init_149 : decode b_Mod_init 149 = .ok (.newarray .int, 2) := by decide +kernel
theorem d_Mod_init_151 : decode b_Mod_init 151 = .ok (.putfield 65, 3) := by decide +kernel
theorem d_Mod_init_154 : decode b_Mod_init 154 = .ok (.aload_n 0, 1) := by decide +kernel
theorem d_Mod_init_155 : decode b_Mod_init 155 = .ok (.bipush 102, 2) := by decide +kernel
theorem d_Mod_init_157 : decode b_Mod_init 157 = .ok (.newarray .int, 2) := by decide +kernel
theorem d_Mod_init_159 : decode b_Mod_init 159 = .ok (.putfield 68, 3) := by decide +kernel
theorem d_Mod_init_162 : decode b_Mod_init 162 = .ok (.aload_n 0, 1) := by decide +kernel
theorem d_Mod_init_163 : decode b_Mod_init 163 = .ok (.bipush 102, 2) := by decide +kernel
theorem d_Mod_init_165 : decode b_Mod_init 165 = .ok (.newarray .long, 2) := by decide +kernel
theorem d_Mod_init_167 : decode b_Mod_init 167 = .ok (.putfield 71, 3) := by decide +kernel
theorem d_Mod_init_170 : decode b_Mod_init 170 = .ok (.aload_n 0, 1) := by decide +kernel
theorem d_Mod_init_171 : decode b_Mod_init 171 = .ok (.sipush 816, 3) := by decide +kernel
theorem d_Mod_init_174 : decode b_Mod_init 174 = .ok (.newarray .int, 2) := by decide +kernel
theorem d_Mod_init_176 : decode b_Mod_init 176 = .ok (.putfield 75, 3) := by decide +kernel
theorem d_Mod_init_179 : decode b_Mod_init 179 = .ok (.aload_n 0, 1) := by decide +kernel
theorem d_Mod_init_180 : decode b_Mod_init 180 = .ok (.bipush 8, 2) := by decide +kernel
theorem d_Mod_init_182 : decode b_Mod_init 182 = .ok (.newarray .int, 2) := by decide +kernel
theorem d_Mod_init_184 : decode b_Mod_init 184 = .ok (.putfield 78, 3) := by decide +kernel
theorem d_Mod_init_187 : decode b_Mod_init 187 = .ok (.return_, 1) := by decide +kernel
theorem d_Mod_thrown_0 : decode b_Mod_thrown 0 = .ok (.aload_n 0, 1) := by decide +kernel
theorem d_Mod_thrown_1 : decode b_Mod_thrown 1 = .ok (.getfield 81, 3) := by decide +kernel
theorem d_Mod_thrown_4 : decode b_Mod_thrown 4 = .ok (.ireturn, 1) := by decide +kernel
theorem d_Mod_isSize_0 : decode b_Mod_isSize 0 = .ok (.iload_n 0, 1) := by decide +kernel
theorem d_Mod_isSize_1 : decode b_Mod_isSize 1 = .ok (.ldc 84, 2) := by decide +kernel
theorem d_Mod_isSize_3 : decode b_Mod_isSize 3 = .ok (.if_icmp .lt 13, 3) := by decide +kernel
theorem d_Mod_isSize_6 : decode b_Mod_isSize 6 = .ok (.iload_n 0, 1) := by decide +kernel
theorem d_Mod_isSize_7 : decode b_Mod_isSize 7 = .ok (.ldc 85, 2) := by decide +kernel
theorem d_Mod_isSize_9 : decode b_Mod_isSize 9 = .ok (.if_icmp .gt 7, 3) := by decide +kernel
theorem d_Mod_isSize_12 : decode b_Mod_isSize 12 = .ok (.iconst 1, 1) := by decide +kernel
theorem d_Mod_isSize_13 : decode b_Mod_isSize 13 = .ok (.goto 4, 3) := by decide +kernel
theorem d_Mod_isSize_16 : decode b_Mod_isSize 16 = .ok (.iconst 0, 1) := by decide +kernel
theorem d_Mod_isSize_17 : decode b_Mod_isSize 17 = .ok (.ireturn, 1) := by decide +kernel
theorem d_Mod_isSizeLong_0 : decode b_Mod_isSizeLong 0 = .ok (.lload_n 0, 1) := by decide +kernel
theorem d_Mod_isSizeLong_1 : decode b_Mod_isSizeLong 1 = .ok (.ldc2_w 86, 3) := by decide +kernel
theorem d_Mod_isSizeLong_4 : decode b_Mod_isSizeLong 4 = .ok (.lcmp, 1) := by decide +kernel
theorem d_Mod_isSizeLong_5 : decode b_Mod_isSizeLong 5 = .ok (.ifCond .lt 15, 3) := by decide +kernel
theorem d_Mod_isSizeLong_8 : decode b_Mod_isSizeLong 8 = .ok (.lload_n 0, 1) := by decide +kernel
theorem d_Mod_isSizeLong_9 : decode b_Mod_isSizeLong 9 = .ok (.ldc2_w 88, 3) := by decide +kernel
theorem d_Mod_isSizeLong_12 : decode b_Mod_isSizeLong 12 = .ok (.lcmp, 1) := by decide +kernel
theorem d_Mod_isSizeLong_13 : decode b_Mod_isSizeLong 13 = .ok (.ifCond .gt 7, 3) := by decide +kernel
theorem d_Mod_isSizeLong_16 : decode b_Mod_isSizeLong 16 = .ok (.iconst 1, 1) := by decide +kernel
theorem d_Mod_isSizeLong_17 : decode b_Mod_isSizeLong 17 = .ok (.goto 4, 3) := by decide +kernel
theorem d_Mod_isSizeLong_20 : decode b_Mod_isSizeLong 20 = .ok (.iconst 0, 1) := by decide +kernel
theorem d_Mod_isSizeLong_21 : decode b_Mod_isSizeLong 21 = .ok (.ireturn, 1) := by decide +kernel
theorem d_Mod_shelved_0 : decode b_Mod_shelved 0 = .ok (.iconst 0, 1) := by decide +kernel
theorem d_Mod_shelved_1 : decode b_Mod_shelved 1 = .ok (.istore_n 1, 1) := by decide +kernel
theorem d_Mod_shelved_2 : decode b_Mod_shelved 2 = .ok (.iconst 0, 1) := by decide +kernel
theorem d_Mod_shelved_3 : decode b_Mod_shelved 3 = .ok (.istore_n 2, 1) := by decide +kernel
theorem d_Mod_shelved_4 : decode b_Mod_shelved 4 = .ok (.iload_n 2, 1) := by decide +kernel
theorem d_Mod_shelved_5 : decode b_Mod_shelved 5 = .ok (.bipush 8, 2) := by decide +kernel
theorem d_Mod_shelved_7 : decode b_Mod_shelved 7 = .ok (.if_icmp .ge 18, 3) := by decide +kernel
theorem d_Mod_shelved_10 : decode b_Mod_shelved 10 = .ok (.iload_n 1, 1) := by decide +kernel
theorem d_Mod_shelved_11 : decode b_Mod_shelved 11 = .ok (.aload_n 0, 1) := by decide +kernel
theorem d_Mod_shelved_12 : decode b_Mod_shelved 12 = .ok (.getfield 38, 3) := by decide +kernel
theorem d_Mod_shelved_15 : decode b_Mod_shelved 15 = .ok (.iload_n 2, 1) := by decide +kernel
theorem d_Mod_shelved_16 : decode b_Mod_shelved 16 = .ok (.iaload, 1) := by decide +kernel
theorem d_Mod_shelved_17 : decode b_Mod_shelved 17 = .ok (.iadd, 1) := by decide +kernel
theorem d_Mod_shelved_18 : decode b_Mod_shelved 18 = .ok (.istore_n 1, 1) := by decide +kernel
theorem d_Mod_shelved_19 : decode b_Mod_shelved 19 = .ok (.iinc 2 1, 3) := by decide +kernel
theorem d_Mod_shelved_22 : decode b_Mod_shelved 22 = .ok (.goto (-18), 3) := by decide +kernel
theorem d_Mod_shelved_25 : decode b_Mod_shelved 25 = .ok (.iload_n 1, 1) := by decide +kernel
theorem d_Mod_shelved_26 : decode b_Mod_shelved 26 = .ok (.ireturn, 1) := by decide +kernel
theorem d_Mod_hasRoom_0 : decode b_Mod_hasRoom 0 = .ok (.aload_n 0, 1) := by decide +kernel
theorem d_Mod_hasRoom_1 : decode b_Mod_hasRoom 1 = .ok (.getfield 90, 3) := by decide +kernel
theorem d_Mod_hasRoom_4 : decode b_Mod_hasRoom 4 = .ok (.aload_n 0, 1) := by decide +kernel
theorem d_Mod_hasRoom_5 : decode b_Mod_hasRoom 5 = .ok (.invokevirtual 93, 3) := by decide +kernel
theorem d_Mod_hasRoom_8 : decode b_Mod_hasRoom 8 = .ok (.iadd, 1) := by decide +kernel
theorem d_Mod_hasRoom_9 : decode b_Mod_hasRoom 9 = .ok (.iload_n 1, 1) := by decide +kernel
theorem d_Mod_hasRoom_10 : decode b_Mod_hasRoom 10 = .ok (.iadd, 1) := by decide +kernel
theorem d_Mod_hasRoom_11 : decode b_Mod_hasRoom 11 = .ok (.sipush 3000, 3) := by decide +kernel
theorem d_Mod_hasRoom_14 : decode b_Mod_hasRoom 14 = .ok (.if_icmp .gt 7, 3) := by decide +kernel
theorem d_Mod_hasRoom_17 : decode b_Mod_hasRoom 17 = .ok (.iconst 1, 1) := by decide +kernel
theorem d_Mod_hasRoom_18 : decode b_Mod_hasRoom 18 = .ok (.goto 4, 3) := by decide +kernel
theorem d_Mod_hasRoom_21 : decode b_Mod_hasRoom 21 = .ok (.iconst 0, 1) := by decide +kernel
theorem d_Mod_hasRoom_22 : decode b_Mod_hasRoom 22 = .ok (.ireturn, 1) := by decide +kernel
theorem d_Mod_start_0 : decode b_Mod_start 0 = .ok (.sipush 3100, 3) := by decide +kernel
theorem d_Mod_start_3 : decode b_Mod_start 3 = .ok (.istore_n 2, 1) := by decide +kernel
theorem d_Mod_start_4 : decode b_Mod_start 4 = .ok (.iconst 0, 1) := by decide +kernel
theorem d_Mod_start_5 : decode b_Mod_start 5 = .ok (.istore_n 3, 1) := by decide +kernel
theorem d_Mod_start_6 : decode b_Mod_start 6 = .ok (.iload_n 3, 1) := by decide +kernel
theorem d_Mod_start_7 : decode b_Mod_start 7 = .ok (.iload_n 1, 1) := by decide +kernel
theorem d_Mod_start_8 : decode b_Mod_start 8 = .ok (.if_icmp .ge 18, 3) := by decide +kernel
theorem d_Mod_start_11 : decode b_Mod_start 11 = .ok (.iload_n 2, 1) := by decide +kernel
theorem d_Mod_start_12 : decode b_Mod_start 12 = .ok (.aload_n 0, 1) := by decide +kernel
theorem d_Mod_start_13 : decode b_Mod_start 13 = .ok (.getfield 38, 3) := by decide +kernel
theorem d_Mod_start_16 : decode b_Mod_start 16 = .ok (.iload_n 3, 1) := by decide +kernel
theorem d_Mod_start_17 : decode b_Mod_start 17 = .ok (.iaload, 1) := by decide +kernel
theorem d_Mod_start_18 : decode b_Mod_start 18 = .ok (.iadd, 1) := by decide +kernel
theorem d_Mod_start_19 : decode b_Mod_start 19 = .ok (.istore_n 2, 1) := by decide +kernel
theorem d_Mod_start_20 : decode b_Mod_start 20 = .ok (.iinc 3 1, 3) := by decide +kernel
theorem d_Mod_start_23 : decode b_Mod_start 23 = .ok (.goto (-17), 3) := by decide +kernel
theorem d_Mod_start_26 : decode b_Mod_start 26 = .ok (.iload_n 2, 1) := by decide +kernel
theorem d_Mod_start_27 : decode b_Mod_start 27 = .ok (.ireturn, 1) := by decide +kernel
theorem d_Mod_move_0 : decode b_Mod_move 0 = .ok (.aload_n 0, 1) := by decide +kernel
theorem d_Mod_move_1 : decode b_Mod_move 1 = .ok (.getfield 7, 3) := by decide +kernel
theorem d_Mod_move_4 : decode b_Mod_move 4 = .ok (.iload_n 2, 1) := by decide +kernel
theorem d_Mod_move_5 : decode b_Mod_move 5 = .ok (.aload_n 0, 1) := by decide +kernel
theorem d_Mod_move_6 : decode b_Mod_move 6 = .ok (.getfield 7, 3) := by decide +kernel
theorem d_Mod_move_9 : decode b_Mod_move 9 = .ok (.iload_n 1, 1) := by decide +kernel
theorem d_Mod_move_10 : decode b_Mod_move 10 = .ok (.iaload, 1) := by decide +kernel
theorem d_Mod_move_11 : decode b_Mod_move 11 = .ok (.iastore, 1) := by decide +kernel
theorem d_Mod_move_12 : decode b_Mod_move 12 = .ok (.aload_n 0, 1) := by decide +kernel
theorem d_Mod_move_13 : decode b_Mod_move 13 = .ok (.getfield 13, 3) := by decide +kernel
theorem d_Mod_move_16 : decode b_Mod_move 16 = .ok (.iload_n 2, 1) := by decide +kernel
theorem d_Mod_move_17 : decode b_Mod_move 17 = .ok (.aload_n 0, 1) := by decide +kernel
theorem d_Mod_move_18 : decode b_Mod_move 18 = .ok (.getfield 13, 3) := by decide +kernel
theorem d_Mod_move_21 : decode b_Mod_move 21 = .ok (.iload_n 1, 1) := by decide +kernel
theorem d_Mod_move_22 : decode b_Mod_move 22 = .ok (.iaload, 1) := by decide +kernel
theorem d_Mod_move_23 : decode b_Mod_move 23 = .ok (.iastore, 1) := by decide +kernel
theorem d_Mod_move_24 : decode b_Mod_move 24 = .ok (.aload_n 0, 1) := by decide +kernel
theorem d_Mod_move_25 : decode b_Mod_move 25 = .ok (.getfield 16, 3) := by decide +kernel
theorem d_Mod_move_28 : decode b_Mod_move 28 = .ok (.iload_n 2, 1) := by decide +kernel
theorem d_Mod_move_29 : decode b_Mod_move 29 = .ok (.aload_n 0, 1) := by decide +kernel
theorem d_Mod_move_30 : decode b_Mod_move 30 = .ok (.getfield 16, 3) := by decide +kernel
theorem d_Mod_move_33 : decode b_Mod_move 33 = .ok (.iload_n 1, 1) := by decide +kernel
theorem d_Mod_move_34 : decode b_Mod_move 34 = .ok (.iaload, 1) := by decide +kernel
theorem d_Mod_move_35 : decode b_Mod_move 35 = .ok (.iastore, 1) := by decide +kernel
theorem d_Mod_move_36 : decode b_Mod_move 36 = .ok (.aload_n 0, 1) := by decide +kernel
theorem d_Mod_move_37 : decode b_Mod_move 37 = .ok (.getfield 19, 3) := by decide +kernel
theorem d_Mod_move_40 : decode b_Mod_move 40 = .ok (.iload_n 2, 1) := by decide +kernel
theorem d_Mod_move_41 : decode b_Mod_move 41 = .ok (.aload_n 0, 1) := by decide +kernel
theorem d_Mod_move_42 : decode b_Mod_move 42 = .ok (.getfield 19, 3) := by decide +kernel
theorem d_Mod_move_45 : decode b_Mod_move 45 = .ok (.iload_n 1, 1) := by decide +kernel
theorem d_Mod_move_46 : decode b_Mod_move 46 = .ok (.iaload, 1) := by decide +kernel
theorem d_Mod_move_47 : decode b_Mod_move 47 = .ok (.iastore, 1) := by decide +kernel
theorem d_Mod_move_48 : decode b_Mod_move 48 = .ok (.aload_n 0, 1) := by decide +kernel
theorem d_Mod_move_49 : decode b_Mod_move 49 = .ok (.getfield 22, 3) := by decide +kernel
theorem d_Mod_move_52 : decode b_Mod_move 52 = .ok (.iload_n 2, 1) := by decide +kernel
theorem d_Mod_move_53 : decode b_Mod_move 53 = .ok (.aload_n 0, 1) := by decide +kernel
theorem d_Mod_move_54 : decode b_Mod_move 54 = .ok (.getfield 22, 3) := by decide +kernel
theorem d_Mod_move_57 : decode b_Mod_move 57 = .ok (.iload_n 1, 1) := by decide +kernel
theorem d_Mod_move_58 : decode b_Mod_move 58 = .ok (.iaload, 1) := by decide +kernel
theorem d_Mod_move_59 : decode b_Mod_move 59 = .ok (.iastore, 1) := by decide +kernel
theorem d_Mod_move_60 : decode b_Mod_move 60 = .ok (.aload_n 0, 1) := by decide +kernel
theorem d_Mod_move_61 : decode b_Mod_move 61 = .ok (.getfield 25, 3) := by decide +kernel
theorem d_Mod_move_64 : decode b_Mod_move 64 = .ok (.iload_n 2, 1) := by decide +kernel
theorem d_Mod_move_65 : decode b_Mod_move 65 = .ok (.aload_n 0, 1) := by decide +kernel
theorem d_Mod_move_66 : decode b_Mod_move 66 = .ok (.getfield 25, 3) := by decide +kernel
theorem d_Mod_move_69 : decode b_Mod_move 69 = .ok (.iload_n 1, 1) := by decide +kernel
theorem d_Mod_move_70 : decode b_Mod_move 70 = .ok (.iaload, 1) := by decide +kernel
theorem d_Mod_move_71 : decode b_Mod_move 71 = .ok (.iastore, 1) := by decide +kernel
theorem d_Mod_move_72 : decode b_Mod_move 72 = .ok (.aload_n 0, 1) := by decide +kernel
theorem d_Mod_move_73 : decode b_Mod_move 73 = .ok (.getfield 28, 3) := by decide +kernel
theorem d_Mod_move_76 : decode b_Mod_move 76 = .ok (.iload_n 2, 1) := by decide +kernel
theorem d_Mod_move_77 : decode b_Mod_move 77 = .ok (.aload_n 0, 1) := by decide +kernel
theorem d_Mod_move_78 : decode b_Mod_move 78 = .ok (.getfield 28, 3) := by decide +kernel
theorem d_Mod_move_81 : decode b_Mod_move 81 = .ok (.iload_n 1, 1) := by decide +kernel
theorem d_Mod_move_82 : decode b_Mod_move 82 = .ok (.iaload, 1) := by decide +kernel
theorem d_Mod_move_83 : decode b_Mod_move 83 = .ok (.iastore, 1) := by decide +kernel
theorem d_Mod_move_84 : decode b_Mod_move 84 = .ok (.return_, 1) := by decide +kernel
theorem d_Mod_font_0 : decode b_Mod_font 0 = .ok (.aload_n 0, 1) := by decide +kernel
theorem d_Mod_font_1 : decode b_Mod_font 1 = .ok (.iconst 0, 1) := by decide +kernel
theorem d_Mod_font_2 : decode b_Mod_font 2 = .ok (.putfield 81, 3) := by decide +kernel
theorem d_Mod_font_5 : decode b_Mod_font 5 = .ok (.iload_n 1, 1) := by decide +kernel
theorem d_Mod_font_6 : decode b_Mod_font 6 = .ok (.ifCond .lt 17, 3) := by decide +kernel
theorem d_Mod_font_9 : decode b_Mod_font 9 = .ok (.iload_n 1, 1) := by decide +kernel
theorem d_Mod_font_10 : decode b_Mod_font 10 = .ok (.bipush 31, 2) := by decide +kernel
theorem d_Mod_font_12 : decode b_Mod_font 12 = .ok (.if_icmp .gt 11, 3) := by decide +kernel
theorem d_Mod_font_15 : decode b_Mod_font 15 = .ok (.iload_n 2, 1) := by decide +kernel
theorem d_Mod_font_16 : decode b_Mod_font 16 = .ok (.ifCond .lt 7, 3) := by decide +kernel
theorem d_Mod_font_19 : decode b_Mod_font 19 = .ok (.iload_n 3, 1) := by decide +kernel
theorem d_Mod_font_20 : decode b_Mod_font 20 = .ok (.ifCond .ge 5, 3) := by decide +kernel
theorem d_Mod_font_23 : decode b_Mod_font 23 = .ok (.iconst 0, 1) := by decide +kernel
theorem d_Mod_font_24 : decode b_Mod_font 24 = .ok (.ireturn, 1) := by decide +kernel
theorem d_Mod_font_25 : decode b_Mod_font 25 = .ok (.aload_n 0, 1) := by decide +kernel
theorem d_Mod_font_26 : decode b_Mod_font 26 = .ok (.getfield 41, 3) := by decide +kernel
theorem d_Mod_font_29 : decode b_Mod_font 29 = .ok (.iload_n 1, 1) := by decide +kernel
theorem d_Mod_font_30 : decode b_Mod_font 30 = .ok (.iload_n 2, 1) := by decide +kernel
theorem d_Mod_font_31 : decode b_Mod_font 31 = .ok (.iastore, 1) := by decide +kernel
theorem d_Mod_font_32 : decode b_Mod_font 32 = .ok (.aload_n 0, 1) := by decide +kernel
theorem d_Mod_font_33 : decode b_Mod_font 33 = .ok (.getfield 44, 3) := by decide +kernel
theorem d_Mod_font_36 : decode b_Mod_font 36 = .ok (.iload_n 1, 1) := by decide +kernel
theorem d_Mod_font_37 : decode b_Mod_font 37 = .ok (.iload_n 3, 1) := by decide +kernel
theorem d_Mod_font_38 : decode b_Mod_font 38 = .ok (.iastore, 1) := by decide +kernel
theorem d_Mod_font_39 : decode b_Mod_font 39 = .ok (.iconst 1, 1) := by decide +kernel
theorem d_Mod_font_40 : decode b_Mod_font 40 = .ok (.ireturn, 1) := by decide +kernel
theorem d_Mod_open_0 : decode b_Mod_open 0 = .ok (.aload_n 0, 1) := by decide +kernel
theorem d_Mod_open_1 : decode b_Mod_open 1 = .ok (.iconst 0, 1) := by decide +kernel
theorem d_Mod_open_2 : decode b_Mod_open 2 = .ok (.putfield 81, 3) := by decide +kernel
theorem d_Mod_open_5 : decode b_Mod_open 5 = .ok (.aload_n 0, 1) := by decide +kernel
theorem d_Mod_open_6 : decode b_Mod_open 6 = .ok (.getfield 97, 3) := by decide +kernel
theorem d_Mod_open_9 : decode b_Mod_open 9 = .ok (.bipush 100, 2) := by decide +kernel
theorem d_Mod_open_11 : decode b_Mod_open 11 = .ok (.if_icmp .ne 5, 3) := by decide +kernel
theorem d_Mod_open_14 : decode b_Mod_open 14 = .ok (.iconst 0, 1) := by decide +kernel
theorem d_Mod_open_15 : decode b_Mod_open 15 = .ok (.ireturn, 1) := by decide +kernel
theorem d_Mod_open_16 : decode b_Mod_open 16 = .ok (.aload_n 0, 1) := by decide +kernel
theorem d_Mod_open_17 : decode b_Mod_open 17 = .ok (.getfield 31, 3) := by decide +kernel
theorem d_Mod_open_20 : decode b_Mod_open 20 = .ok (.aload_n 0, 1) := by decide +kernel
theorem d_Mod_open_21 : decode b_Mod_open 21 = .ok (.getfield 97, 3) := by decide +kernel
theorem d_Mod_open_24 : decode b_Mod_open 24 = .ok (.aload_n 0, 1) := by decide +kernel
theorem d_Mod_open_25 : decode b_Mod_open 25 = .ok (.getfield 90, 3) := by decide +kernel
theorem d_Mod_open_28 : decode b_Mod_open 28 = .ok (.iastore, 1) := by decide +kernel
theorem d_Mod_open_29 : decode b_Mod_open 29 = .ok (.aload_n 0, 1) := by decide +kernel
theorem d_Mod_open_30 : decode b_Mod_open 30 = .ok (.getfield 34, 3) := by decide +kernel
theorem d_Mod_open_33 : decode b_Mod_open 33 = .ok (.aload_n 0, 1) := by decide +kernel
theorem d_Mod_open_34 : decode b_Mod_open 34 = .ok (.getfield 97, 3) := by decide +kernel
theorem d_Mod_open_37 : decode b_Mod_open 37 = .ok (.iload_n 1, 1) := by decide +kernel
theorem d_Mod_open_38 : decode b_Mod_open 38 = .ok (.bastore, 1) := by decide +kernel
theorem d_Mod_open_39 : decode b_Mod_open 39 = .ok (.aload_n 0, 1) := by decide +kernel
theorem d_Mod_open_40 : decode b_Mod_open 40 = .ok (.dup, 1) := by decide +kernel
theorem d_Mod_open_41 : decode b_Mod_open 41 = .ok (.getfield 97, 3) := by decide +kernel
theorem d_Mod_open_44 : decode b_Mod_open 44 = .ok (.iconst 1, 1) := by decide +kernel
theorem d_Mod_open_45 : decode b_Mod_open 45 = .ok (.iadd, 1) := by decide +kernel
theorem d_Mod_open_46 : decode b_Mod_open 46 = .ok (.putfield 97, 3) := by decide +kernel
theorem d_Mod_open_49 : decode b_Mod_open 49 = .ok (.iconst 1, 1) := by decide +kernel
theorem d_Mod_open_50 : decode b_Mod_open 50 = .ok (.ireturn, 1) := by decide +kernel
theorem d_Mod_isVertical_0 : decode b_Mod_isVertical 0 = .ok (.aload_n 0, 1) := by decide +kernel
theorem d_Mod_isVertical_1 : decode b_Mod_isVertical 1 = .ok (.getfield 97, 3) := by decide +kernel
theorem d_Mod_isVertical_4 : decode b_Mod_isVertical 4 = .ok (.ifCond .le 21, 3) := by decide +kernel
theorem d_Mod_isVertical_7 : decode b_Mod_isVertical 7 = .ok (.aload_n 0, 1) := by decide +kernel
theorem d_Mod_isVertical_8 : decode b_Mod_isVertical 8 = .ok (.getfield 34, 3) := by decide +kernel
theorem d_Mod_isVertical_11 : decode b_Mod_isVertical 11 = .ok (.aload_n 0, 1) := by decide +kernel
theorem d_Mod_isVertical_12 : decode b_Mod_isVertical 12 = .ok (.getfield 97, 3) := by decide +kernel
theorem d_Mod_isVertical_15 : decode b_Mod_isVertical 15 = .ok (.iconst 1, 1) := by decide +kernel
theorem d_Mod_isVertical_16 : decode b_Mod_isVertical 16 = .ok (.isub, 1) := by decide +kernel
theorem d_Mod_isVertical_17 : decode b_Mod_isVertical 17 = .ok (.baload, 1) := by decide +kernel
theorem d_Mod_isVertical_18 : decode b_Mod_isVertical 18 = .ok (.ifCond .eq 7, 3) := by decide +kernel
theorem d_Mod_isVertical_21 : decode b_Mod_isVertical 21 = .ok (.iconst 1, 1) := by decide +kernel
theorem d_Mod_isVertical_22 : decode b_Mod_isVertical 22 = .ok (.goto 4, 3) := by decide +kernel
theorem d_Mod_isVertical_25 : decode b_Mod_isVertical 25 = .ok (.iconst 0, 1) := by decide +kernel
theorem d_Mod_isVertical_26 : decode b_Mod_isVertical 26 = .ok (.ireturn, 1) := by decide +kernel
theorem d_Mod_add_0 : decode b_Mod_add 0 = .ok (.aload_n 0, 1) := by decide +kernel
theorem d_Mod_add_1 : decode b_Mod_add 1 = .ok (.iconst 0, 1) := by decide +kernel
theorem d_Mod_add_2 : decode b_Mod_add 2 = .ok (.putfield 81, 3) := by decide +kernel
theorem d_Mod_add_5 : decode b_Mod_add 5 = .ok (.iload_n 1, 1) := by decide +kernel
theorem d_Mod_add_6 : decode b_Mod_add 6 = .ok (.ifCond .eq 18, 3) := by decide +kernel
theorem d_Mod_add_9 : decode b_Mod_add 9 = .ok (.aload_n 0, 1) := by decide +kernel
theorem d_Mod_add_10 : decode b_Mod_add 10 = .ok (.getfield 97, 3) := by decide +kernel
theorem d_Mod_add_13 : decode b_Mod_add 13 = .ok (.ifCond .eq 11, 3) := by decide +kernel
theorem d_Mod_add_16 : decode b_Mod_add 16 = .ok (.aload_n 0, 1) := by decide +kernel
theorem d_Mod_add_17 : decode b_Mod_add 17 = .ok (.iconst 1, 1) := by decide +kernel
theorem d_Mod_add_18 : decode b_Mod_add 18 = .ok (.invokevirtual 100, 3) := by decide +kernel
theorem d_Mod_add_21 : decode b_Mod_add 21 = .ok (.ifCond .ne 5, 3) := by decide +kernel
theorem d_Mod_add_24 : decode b_Mod_add 24 = .ok (.iconst 0, 1) := by decide +kernel
theorem d_Mod_add_25 : decode b_Mod_add 25 = .ok (.ireturn, 1) := by decide +kernel
theorem d_Mod_add_26 : decode b_Mod_add 26 = .ok (.aload_n 0, 1) := by decide +kernel
theorem d_Mod_add_27 : decode b_Mod_add 27 = .ok (.getfield 7, 3) := by decide +kernel
theorem d_Mod_add_30 : decode b_Mod_add 30 = .ok (.aload_n 0, 1) := by decide +kernel
theorem d_Mod_add_31 : decode b_Mod_add 31 = .ok (.getfield 90, 3) := by decide +kernel
theorem d_Mod_add_34 : decode b_Mod_add 34 = .ok (.iload_n 2, 1) := by decide +kernel
theorem d_Mod_add_35 : decode b_Mod_add 35 = .ok (.iastore, 1) := by decide +kernel
theorem d_Mod_add_36 : decode b_Mod_add 36 = .ok (.aload_n 0, 1) := by decide +kernel
theorem d_Mod_add_37 : decode b_Mod_add 37 = .ok (.getfield 13, 3) := by decide +kernel
theorem d_Mod_add_40 : decode b_Mod_add 40 = .ok (.aload_n 0, 1) := by decide +kernel
theorem d_Mod_add_41 : decode b_Mod_add 41 = .ok (.getfield 90, 3) := by decide +kernel
theorem d_Mod_add_44 : decode b_Mod_add 44 = .ok (.iload_n 3, 1) := by decide +kernel
theorem d_Mod_add_45 : decode b_Mod_add 45 = .ok (.iastore, 1) := by decide +kernel
theorem d_Mod_add_46 : decode b_Mod_add 46 = .ok (.aload_n 0, 1) := by decide +kernel
theorem d_Mod_add_47 : decode b_Mod_add 47 = .ok (.getfield 16, 3) := by decide +kernel
theorem d_Mod_add_50 : decode b_Mod_add 50 = .ok (.aload_n 0, 1) := by decide +kernel
theorem d_Mod_add_51 : decode b_Mod_add 51 = .ok (.getfield 90, 3) := by decide +kernel
theorem d_Mod_add_54 : decode b_Mod_add 54 = .ok (.iload 4, 2) := by decide +kernel
theorem d_Mod_add_56 : decode b_Mod_add 56 = .ok (.iastore, 1) := by decide +kernel
theorem d_Mod_add_57 : decode b_Mod_add 57 = .ok (.aload_n 0, 1) := by decide +kernel
theorem d_Mod_add_58 : decode b_Mod_add 58 = .ok (.getfield 19, 3) := by decide +kernel
theorem d_Mod_add_61 : decode b_Mod_add 61 = .ok (.aload_n 0, 1) := by decide +kernel
theorem d_Mod_add_62 : decode b_Mod_add 62 = .ok (.getfield 90, 3) := by decide +kernel
theorem d_Mod_add_65 : decode b_Mod_add 65 = .ok (.iload 5, 2) := by decide +kernel
theorem d_Mod_add_67 : decode b_Mod_add 67 = .ok (.iastore, 1) := by decide +kernel
theorem d_Mod_add_68 : decode b_Mod_add 68 = .ok (.aload_n 0, 1) := by decide +kernel
theorem d_Mod_add_69 : decode b_Mod_add 69 = .ok (.getfield 22, 3) := by decide +kernel
theorem d_Mod_add_72 : decode b_Mod_add 72 = .ok (.aload_n 0, 1) := by decide +kernel
theorem d_Mod_add_73 : decode b_Mod_add 73 = .ok (.getfield 90, 3) := by decide +kernel
theorem d_Mod_add_76 : decode b_Mod_add 76 = .ok (.iload 6, 2) := by decide +kernel
theorem d_Mod_add_78 : decode b_Mod_add 78 = .ok (.iastore, 1) := by decide +kernel
theorem d_Mod_add_79 : decode b_Mod_add 79 = .ok (.aload_n 0, 1) := by decide +kernel
theorem d_Mod_add_80 : decode b_Mod_add 80 = .ok (.getfield 25, 3) := by decide +kernel
theorem d_Mod_add_83 : decode b_Mod_add 83 = .ok (.aload_n 0, 1) := by decide +kernel
theorem d_Mod_add_84 : decode b_Mod_add 84 = .ok (.getfield 90, 3) := by decide +kernel
theorem d_Mod_add_87 : decode b_Mod_add 87 = .ok (.iload 7, 2) := by decide +kernel
theorem d_Mod_add_89 : decode b_Mod_add 89 = .ok (.iastore, 1) := by decide +kernel
theorem d_Mod_add_90 : decode b_Mod_add 90 = .ok (.aload_n 0, 1) := by decide +kernel
theorem d_Mod_add_91 : decode b_Mod_add 91 = .ok (.getfield 28, 3) := by decide +kernel
theorem d_Mod_add_94 : decode b_Mod_add 94 = .ok (.aload_n 0, 1) := by decide +kernel
theorem d_Mod_add_95 : decode b_Mod_add 95 = .ok (.getfield 90, 3) := by decide +kernel
theorem d_Mod_add_98 : decode b_Mod_add 98 = .ok (.iconst 1, 1) := by decide +kernel
theorem d_Mod_add_99 : decode b_Mod_add 99 = .ok (.iastore, 1) := by decide +kernel
theorem d_Mod_add_100 : decode b_Mod_add 100 = .ok (.aload_n 0, 1) := by decide +kernel
theorem d_Mod_add_101 : decode b_Mod_add 101 = .ok (.dup, 1) := by decide +kernel
theorem d_Mod_add_102 : decode b_Mod_add 102 = .ok (.getfield 90, 3) := by decide +kernel
theorem d_Mod_add_105 : decode b_Mod_add 105 = .ok (.iconst 1, 1) := by decide +kernel
theorem d_Mod_add_106 : decode b_Mod_add 106 = .ok (.iadd, 1) := by decide +kernel
theorem d_Mod_add_107 : decode b_Mod_add 107 = .ok (.putfield 90, 3) := by decide +kernel
theorem d_Mod_add_110 : decode b_Mod_add 110 = .ok (.iconst 1, 1) := by decide +kernel
theorem d_Mod_add_111 : decode b_Mod_add 111 = .ok (.ireturn, 1) := by decide +kernel
theorem d_Mod_character_0 : decode b_Mod_character 0 = .ok (.aload_n 0, 1) := by decide +kernel
theorem d_Mod_character_1 : decode b_Mod_character 1 = .ok (.aload_n 0, 1) := by decide +kernel
theorem d_Mod_character_2 : decode b_Mod_character 2 = .ok (.invokevirtual 104, 3) := by decide +kernel
theorem d_Mod_character_5 : decode b_Mod_character 5 = .ok (.ifCond .ne 51, 3) := by decide +kernel
theorem d_Mod_character_8 : decode b_Mod_character 8 = .ok (.iload_n 1, 1) := by decide +kernel
theorem d_Mod_character_9 : decode b_Mod_character 9 = .ok (.ifCond .lt 47, 3) := by decide +kernel
theorem d_Mod_character_12 : decode b_Mod_character 12 = .ok (.iload_n 1, 1) := by decide +kernel
theorem d_Mod_character_13 : decode b_Mod_character 13 = .ok (.bipush 32, 2) := by decide +kernel
theorem d_Mod_character_15 : decode b_Mod_character 15 = .ok (.if_icmp .ge 41, 3) := by decide +kernel
theorem d_Mod_character_18 : decode b_Mod_character 18 = .ok (.iload_n 2, 1) := by decide +kernel
theorem d_Mod_character_19 : decode b_Mod_character 19 = .ok (.ifCond .lt 37, 3) := by decide +kernel
theorem d_Mod_character_22 : decode b_Mod_character 22 = .ok (.iload_n 2, 1) := by decide +kernel
theorem d_Mod_character_23 : decode b_Mod_character 23 = .ok (.sipush 256, 3) := by decide +kernel
theorem d_Mod_character_26 : decode b_Mod_character 26 = .ok (.if_icmp .ge 30, 3) := by decide +kernel
theorem d_Mod_character_29 : decode b_Mod_character 29 = .ok (.iload_n 3, 1) := by decide +kernel
theorem d_Mod_character_30 : decode b_Mod_character 30 = .ok (.invokestatic 108, 3) := by decide +kernel
theorem d_Mod_character_33 : decode b_Mod_character 33 = .ok (.ifCond .eq 23, 3) := by decide +kernel
theorem d_Mod_character_36 : decode b_Mod_character 36 = .ok (.iload 4, 2) := by decide +kernel
theorem d_Mod_character_38 : decode b_Mod_character 38 = .ok (.invokestatic 108, 3) := by decide +kernel
theorem d_Mod_character_41 : decode b_Mod_character 41 = .ok (.ifCond .eq 15, 3) := by decide +kernel
theorem d_Mod_character_44 : decode b_Mod_character 44 = .ok (.iload 5, 2) := by decide +kernel
theorem d_Mod_character_46 : decode b_Mod_character 46 = .ok (.invokestatic 108, 3) := by decide +kernel
theorem d_Mod_character_49 : decode b_Mod_character 49 = .ok (.ifCond .eq 7, 3) := by decide +kernel
theorem d_Mod_character_52 : decode b_Mod_character 52 = .ok (.iconst 1, 1) := by decide +kernel
theorem d_Mod_character_53 : decode b_Mod_character 53 = .ok (.goto 4, 3) := by decide +kernel
theorem d_Mod_character_56 : decode b_Mod_character 56 = .ok (.iconst 0, 1) := by decide +kernel
theorem d_Mod_character_57 : decode b_Mod_character 57 = .ok (.iconst 1, 1) := by decide +kernel
theorem d_Mod_character_58 : decode b_Mod_character 58 = .ok (.iload_n 3, 1) := by decide +kernel
theorem d_Mod_character_59 : decode b_Mod_character 59 = .ok (.iload 4, 2) := by decide +kernel
theorem d_Mod_character_61 : decode b_Mod_character 61 = .ok (.iload 5, 2) := by decide +kernel
theorem d_Mod_character_63 : decode b_Mod_character 63 = .ok (.iload_n 1, 1) := by decide +kernel
theorem d_Mod_character_64 : decode b_Mod_character 64 = .ok (.iload_n 2, 1) := by decide +kernel
theorem d_Mod_character_65 : decode b_Mod_character 65 = .ok (.invokevirtual 111, 3) := by decide +kernel
theorem d_Mod_character_68 : decode b_Mod_character 68 = .ok (.ireturn, 1) := by decide +kernel
theorem d_Mod_rule_0 : decode b_Mod_rule 0 = .ok (.aload_n 0, 1) := by decide +kernel
theorem d_Mod_rule_1 : decode b_Mod_rule 1 = .ok (.invokevirtual 104, 3) := by decide +kernel
theorem d_Mod_rule_4 : decode b_Mod_rule 4 = .ok (.ifCond .eq 22, 3) := by decide +kernel
theorem d_Mod_rule_7 : decode b_Mod_rule 7 = .ok (.iload 4, 2) := by decide +kernel
theorem d_Mod_rule_9 : decode b_Mod_rule 9 = .ok (.ifCond .eq 9, 3) := by decide +kernel
theorem d_Mod_rule_12 : decode b_Mod_rule 12 = .ok (.iload 4, 2) := by decide +kernel
theorem d_Mod_rule_14 : decode b_Mod_rule 14 = .ok (.iconst 1, 1) := by decide +kernel
theorem d_Mod_rule_15 : decode b_Mod_rule 15 = .ok (.if_icmp .ne 7, 3) := by decide +kernel
theorem d_Mod_rule_18 : decode b_Mod_rule 18 = .ok (.iconst 1, 1) := by decide +kernel
theorem d_Mod_rule_19 : decode b_Mod_rule 19 = .ok (.goto 36, 3) := by decide +kernel
theorem d_Mod_rule_22 : decode b_Mod_rule 22 = .ok (.iconst 0, 1) := by decide +kernel
theorem d_Mod_rule_23 : decode b_Mod_rule 23 = .ok (.goto 32, 3) := by decide +kernel
theorem d_Mod_rule_26 : decode b_Mod_rule 26 = .ok (.iload 4, 2) := by decide +kernel
theorem d_Mod_rule_28 : decode b_Mod_rule 28 = .ok (.ifCond .eq 22, 3) := by decide +kernel
theorem d_Mod_rule_31 : decode b_Mod_rule 31 = .ok (.iload 4, 2) := by decide +kernel
theorem d_Mod_rule_33 : decode b_Mod_rule 33 = .ok (.iconst 2, 1) := by decide +kernel
theorem d_Mod_rule_34 : decode b_Mod_rule 34 = .ok (.if_icmp .eq 16, 3) := by decide +kernel
theorem d_Mod_rule_37 : decode b_Mod_rule 37 = .ok (.iload 4, 2) := by decide +kernel
theorem d_Mod_rule_39 : decode b_Mod_rule 39 = .ok (.iconst 4, 1) := by decide +kernel
theorem d_Mod_rule_40 : decode b_Mod_rule 40 = .ok (.if_icmp .eq 10, 3) := by decide +kernel
theorem d_Mod_rule_43 : decode b_Mod_rule 43 = .ok (.iload 4, 2) := by decide +kernel
theorem d_Mod_rule_45 : decode b_Mod_rule 45 = .ok (.bipush 6, 2) := by decide +kernel
theorem d_Mod_rule_47 : decode b_Mod_rule 47 = .ok (.if_icmp .ne 7, 3) := by decide +kernel
theorem d_Mod_rule_50 : decode b_Mod_rule 50 = .ok (.iconst 1, 1) := by decide +kernel
theorem d_Mod_rule_51 : decode b_Mod_rule 51 = .ok (.goto 4, 3) := by decide +kernel
theorem d_Mod_rule_54 : decode b_Mod_rule 54 = .ok (.iconst 0, 1) := by decide +kernel
theorem d_Mod_rule_55 : decode b_Mod_rule 55 = .ok (.istore 5, 2) := by decide +kernel
theorem d_Mod_rule_57 : decode b_Mod_rule 57 = .ok (.aload_n 0, 1) := by decide +kernel
theorem d_Mod_rule_58 : decode b_Mod_rule 58 = .ok (.iload 5, 2) := by decide +kernel
theorem d_Mod_rule_60 : decode b_Mod_rule 60 = .ok (.ifCond .eq 28, 3) := by decide +kernel
theorem d_Mod_rule_63 : decode b_Mod_rule 63 = .ok (.iload_n 1, 1) := by decide +kernel
theorem d_Mod_rule_64 : decode b_Mod_rule 64 = .ok (.invokestatic 108, 3) := by decide +kernel
theorem d_Mod_rule_67 : decode b_Mod_rule 67 = .ok (.ifCond .eq 21, 3) := by decide +kernel
theorem d_Mod_rule_70 : decode b_Mod_rule 70 = .ok (.iload_n 2, 1) := by decide +kernel
theorem d_Mod_rule_71 : decode b_Mod_rule 71 = .ok (.invokestatic 108, 3) := by decide +kernel
theorem d_Mod_rule_74 : decode b_Mod_rule 74 = .ok (.ifCond .eq 14, 3) := by decide +kernel
theorem d_Mod_rule_77 : decode b_Mod_rule 77 = .ok (.iload_n 3, 1) := by decide +kernel
theorem d_Mod_rule_78 : decode b_Mod_rule 78 = .ok (.invokestatic 108, 3) := by decide +kernel
theorem d_Mod_rule_81 : decode b_Mod_rule 81 = .ok (.ifCond .eq 7, 3) := by decide +kernel
theorem d_Mod_rule_84 : decode b_Mod_rule 84 = .ok (.iconst 1, 1) := by decide +kernel
theorem d_Mod_rule_85 : decode b_Mod_rule 85 = .ok (.goto 4, 3) := by decide +kernel
theorem d_Mod_rule_88 : decode b_Mod_rule 88 = .ok (.iconst 0, 1) := by decide +kernel
theorem d_Mod_rule_89 : decode b_Mod_rule 89 = .ok (.iconst 2, 1) := by decide +kernel
theorem d_Mod_rule_90 : decode b_Mod_rule 90 = .ok (.iload 4, 2) := by decide +kernel
theorem d_Mod_rule_92 : decode b_Mod_rule 92 = .ok (.iconst 1, 1) := by decide +kernel
theorem d_Mod_rule_93 : decode b_Mod_rule 93 = .ok (.iand, 1) := by decide +kernel
theorem d_Mod_rule_94 : decode b_Mod_rule 94 = .ok (.iconst 1, 1) := by decide +kernel
theorem d_Mod_rule_95 : decode b_Mod_rule 95 = .ok (.if_icmp .ne 8, 3) := by decide +kernel
theorem d_Mod_rule_98 : decode b_Mod_rule 98 = .ok (.ldc 115, 2) := by decide +kernel
theorem d_Mod_rule_100 : decode b_Mod_rule 100 = .ok (.goto 4, 3) := by decide +kernel
theorem d_Mod_rule_103 : decode b_Mod_rule 103 = .ok (.iload_n 1, 1) := by decide +kernel
theorem d_Mod_rule_104 : decode b_Mod_rule 104 = .ok (.iload 4, 2) := by decide +kernel
theorem d_Mod_rule_106 : decode b_Mod_rule 106 = .ok (.iconst 2, 1) := by decide +kernel
theorem d_Mod_rule_107 : decode b_Mod_rule 107 = .ok (.iand, 1) := by decide +kernel
theorem d_Mod_rule_108 : decode b_Mod_rule 108 = .ok (.iconst 2, 1) := by decide +kernel
theorem d_Mod_rule_109 : decode b_Mod_rule 109 = .ok (.if_icmp .ne 8, 3) := by decide +kernel
theorem d_Mod_rule_112 : decode b_Mod_rule 112 = .ok (.ldc 115, 2) := by decide +kernel
theorem d_Mod_rule_114 : decode b_Mod_rule 114 = .ok (.goto 4, 3) := by decide +kernel
theorem d_Mod_rule_117 : decode b_Mod_rule 117 = .ok (.iload_n 2, 1) := by decide +kernel
theorem d_Mod_rule_118 : decode b_Mod_rule 118 = .ok (.iload 4, 2) := by decide +kernel
theorem d_Mod_rule_120 : decode b_Mod_rule 120 = .ok (.iconst 4, 1) := by decide +kernel
theorem d_Mod_rule_121 : decode b_Mod_rule 121 = .ok (.iand, 1) := by decide +kernel
theorem d_Mod_rule_122 : decode b_Mod_rule 122 = .ok (.iconst 4, 1) := by decide +kernel
theorem d_Mod_rule_123 : decode b_Mod_rule 123 = .ok (.if_icmp .ne 8, 3) := by decide +kernel
theorem d_Mod_rule_126 : decode b_Mod_rule 126 = .ok (.ldc 115, 2) := by decide +kernel
theorem d_Mod_rule_128 : decode b_Mod_rule 128 = .ok (.goto 4, 3) := by decide +kernel
theorem d_Mod_rule_131 : decode b_Mod_rule 131 = .ok (.iload_n 3, 1) := by decide +kernel
theorem d_Mod_rule_132 : decode b_Mod_rule 132 = .ok (.iconst 0, 1) := by decide +kernel
theorem d_Mod_rule_133 : decode b_Mod_rule 133 = .ok (.iconst 0, 1) := by decide +kernel
theorem d_Mod_rule_134 : decode b_Mod_rule 134 = .ok (.invokevirtual 111, 3) := by decide +kernel
theorem d_Mod_rule_137 : decode b_Mod_rule 137 = .ok (.ireturn, 1) := by decide +kernel
theorem d_Mod_space_0 : decode b_Mod_space 0 = .ok (.aload_n 0, 1) := by decide +kernel
theorem d_Mod_space_1 : decode b_Mod_space 1 = .ok (.iload_n 1, 1) := by decide +kernel
theorem d_Mod_space_2 : decode b_Mod_space 2 = .ok (.invokestatic 108, 3) := by decide +kernel
theorem d_Mod_space_5 : decode b_Mod_space 5 = .ok (.iconst 3, 1) := by decide +kernel
theorem d_Mod_space_6 : decode b_Mod_space 6 = .ok (.iload_n 1, 1) := by decide +kernel
theorem d_Mod_space_7 : decode b_Mod_space 7 = .ok (.iconst 0, 1) := by decide +kernel
theorem d_Mod_space_8 : decode b_Mod_space 8 = .ok (.iconst 0, 1) := by decide +kernel
theorem d_Mod_space_9 : decode b_Mod_space 9 = .ok (.iconst 0, 1) := by decide +kernel
theorem d_Mod_space_10 : decode b_Mod_space 10 = .ok (.iconst 0, 1) := by decide +kernel
theorem d_Mod_space_11 : decode b_Mod_space 11 = .ok (.invokevirtual 111, 3) := by decide +kernel
theorem d_Mod_space_14 : decode b_Mod_space 14 = .ok (.ireturn, 1) := by decide +kernel
theorem d_Mod_isBox_0 : decode b_Mod_isBox 0 = .ok (.aload_n 0, 1) := by decide +kernel
theorem d_Mod_isBox_1 : decode b_Mod_isBox 1 = .ok (.getfield 7, 3) := by decide +kernel
theorem d_Mod_isBox_4 : decode b_Mod_isBox 4 = .ok (.iload_n 1, 1) := by decide +kernel
theorem d_Mod_isBox_5 : decode b_Mod_isBox 5 = .ok (.iaload, 1) := by decide +kernel
theorem d_Mod_isBox_6 : decode b_Mod_isBox 6 = .ok (.iconst 4, 1) := by decide +kernel
theorem d_Mod_isBox_7 : decode b_Mod_isBox 7 = .ok (.if_icmp .eq 13, 3) := by decide +kernel
theorem d_Mod_isBox_10 : decode b_Mod_isBox 10 = .ok (.aload_n 0, 1) := by decide +kernel
theorem d_Mod_isBox_11 : decode b_Mod_isBox 11 = .ok (.getfield 7, 3) := by decide +kernel
theorem d_Mod_isBox_14 : decode b_Mod_isBox 14 = .ok (.iload_n 1, 1) := by decide +kernel
theorem d_Mod_isBox_15 : decode b_Mod_isBox 15 = .ok (.iaload, 1) := by decide +kernel
theorem d_Mod_isBox_16 : decode b_Mod_isBox 16 = .ok (.iconst 5, 1) := by decide +kernel
theorem d_Mod_isBox_17 : decode b_Mod_isBox 17 = .ok (.if_icmp .ne 7, 3) := by decide +kernel
theorem d_Mod_isBox_20 : decode b_Mod_isBox 20 = .ok (.iconst 1, 1) := by decide +kernel
theorem d_Mod_isBox_21 : decode b_Mod_isBox 21 = .ok (.goto 4, 3) := by decide +kernel
theorem d_Mod_isBox_24 : decode b_Mod_isBox 24 = .ok (.iconst 0, 1) := by decide +kernel
theorem d_Mod_isBox_25 : decode b_Mod_isBox 25 = .ok (.ireturn, 1) := by decide +kernel
theorem d_Mod_nested_0 : decode b_Mod_nested 0 = .ok (.iconst 0, 1) := by decide +kernel
theorem d_Mod_nested_1 : decode b_Mod_nested 1 = .ok (.istore_n 3, 1) := by decide +kernel
theorem d_Mod_nested_2 : decode b_Mod_nested 2 = .ok (.iload_n 1, 1) := by decide +kernel
theorem d_Mod_nested_3 : decode b_Mod_nested 3 = .ok (.istore 4, 2) := by decide +kernel
theorem d_Mod_nested_5 : decode b_Mod_nested 5 = .ok (.iload 4, 2) := by decide +kernel
theorem d_Mod_nested_7 : decode b_Mod_nested 7 = .ok (.iload_n 2, 1) := by decide +kernel
theorem d_Mod_nested_8 : decode b_Mod_nested 8 = .ok (.if_icmp .ge 84, 3) := by decide +kernel
theorem d_Mod_nested_11 : decode b_Mod_nested 11 = .ok (.iconst 0, 1) := by decide +kernel
theorem d_Mod_nested_12 : decode b_Mod_nested 12 = .ok (.istore 5, 2) := by decide +kernel
theorem d_Mod_nested_14 : decode b_Mod_nested 14 = .ok (.iload_n 1, 1) := by decide +kernel
theorem d_Mod_nested_15 : decode b_Mod_nested 15 = .ok (.istore 6, 2) := by decide +kernel
theorem d_Mod_nested_17 : decode b_Mod_nested 17 = .ok (.iload 6, 2) := by decide +kernel
theorem d_Mod_nested_19 : decode b_Mod_nested 19 = .ok (.iload 4, 2) := by decide +kernel
theorem d_Mod_nested_21 : decode b_Mod_nested 21 = .ok (.if_icmp .gt 52, 3) := by decide +kernel
theorem d_Mod_nested_24 : decode b_Mod_nested 24 = .ok (.aload_n 0, 1) := by decide +kernel
theorem d_Mod_nested_25 : decode b_Mod_nested 25 = .ok (.iload 4, 2) := by decide +kernel
theorem d_Mod_nested_27 : decode b_Mod_nested 27 = .ok (.invokevirtual 116, 3) := by decide +kernel
theorem d_Mod_nested_30 : decode b_Mod_nested 30 = .ok (.ifCond .eq 43, 3) := by decide +kernel
theorem d_Mod_nested_33 : decode b_Mod_nested 33 = .ok (.iload 5, 2) := by decide +kernel
theorem d_Mod_nested_35 : decode b_Mod_nested 35 = .ok (.aload_n 0, 1) := by decide +kernel
theorem d_Mod_nested_36 : decode b_Mod_nested 36 = .ok (.iload 6, 2) := by decide +kernel
theorem d_Mod_nested_38 : decode b_Mod_nested 38 = .ok (.invokevirtual 116, 3) := by decide +kernel
theorem d_Mod_nested_41 : decode b_Mod_nested 41 = .ok (.ifCond .eq 22, 3) := by decide +kernel
theorem d_Mod_nested_44 : decode b_Mod_nested 44 = .ok (.iload 6, 2) := by decide +kernel
theorem d_Mod_nested_46 : decode b_Mod_nested 46 = .ok (.aload_n 0, 1) := by decide +kernel
theorem d_Mod_nested_47 : decode b_Mod_nested 47 = .ok (.getfield 28, 3) := by decide +kernel
theorem d_Mod_nested_50 : decode b_Mod_nested 50 = .ok (.iload 6, 2) := by decide +kernel
theorem d_Mod_nested_52 : decode b_Mod_nested 52 = .ok (.iaload, 1) := by decide +kernel
theorem d_Mod_nested_53 : decode b_Mod_nested 53 = .ok (.iadd, 1) := by decide +kernel
theorem d_Mod_nested_54 : decode b_Mod_nested 54 = .ok (.iload 4, 2) := by decide +kernel
theorem d_Mod_nested_56 : decode b_Mod_nested 56 = .ok (.if_icmp .le 7, 3) := by decide +kernel
theorem d_Mod_nested_59 : decode b_Mod_nested 59 = .ok (.iconst 1, 1) := by decide +kernel
theorem d_Mod_nested_60 : decode b_Mod_nested 60 = .ok (.goto 4, 3) := by decide +kernel
theorem d_Mod_nested_63 : decode b_Mod_nested 63 = .ok (.iconst 0, 1) := by decide +kernel
theorem d_Mod_nested_64 : decode b_Mod_nested 64 = .ok (.iadd, 1) := by decide +kernel
theorem d_Mod_nested_65 : decode b_Mod_nested 65 = .ok (.istore 5, 2) := by decide +kernel
theorem d_Mod_nested_67 : decode b_Mod_nested 67 = .ok (.iinc 6 1, 3) := by decide +kernel
theorem d_Mod_nested_70 : decode b_Mod_nested 70 = .ok (.goto (-53), 3) := by decide +kernel
theorem d_Mod_nested_73 : decode b_Mod_nested 73 = .ok (.iload 5, 2) := by decide +kernel
theorem d_Mod_nested_75 : decode b_Mod_nested 75 = .ok (.iload_n 3, 1) := by decide +kernel
theorem d_Mod_nested_76 : decode b_Mod_nested 76 = .ok (.if_icmp .le 8, 3) := by decide +kernel
theorem d_Mod_nested_79 : decode b_Mod_nested 79 = .ok (.iload 5, 2) := by decide +kernel
theorem d_Mod_nested_81 : decode b_Mod_nested 81 = .ok (.goto 4, 3) := by decide +kernel
theorem d_Mod_nested_84 : decode b_Mod_nested 84 = .ok (.iload_n 3, 1) := by decide +kernel
theorem d_Mod_nested_85 : decode b_Mod_nested 85 = .ok (.istore_n 3, 1) := by decide +kernel
theorem d_Mod_nested_86 : decode b_Mod_nested 86 = .ok (.iinc 4 1, 3) := by decide +kernel
theorem d_Mod_nested_89 : decode b_Mod_nested 89 = .ok (.goto (-84), 3) := by decide +kernel
theorem d_Mod_nested_92 : decode b_Mod_nested 92 = .ok (.iload_n 3, 1) := by decide +kernel
theorem d_Mod_nested_93 : decode b_Mod_nested 93 = .ok (.ireturn, 1) := by decide +kernel
theorem d_Mod_empty_0 : decode b_Mod_empty 0 = .ok (.aload_n 0, 1) := by decide +kernel
theorem d_Mod_empty_1 : decode b_Mod_empty 1 = .ok (.iload_n 1, 1) := by decide +kernel
theorem d_Mod_empty_2 : decode b_Mod_empty 2 = .ok (.invokevirtual 119, 3) := by decide +kernel
theorem d_Mod_empty_5 : decode b_Mod_empty 5 = .ok (.istore_n 2, 1) := by decide +kernel
theorem d_Mod_empty_6 : decode b_Mod_empty 6 = .ok (.aload_n 0, 1) := by decide +kernel
theorem d_Mod_empty_7 : decode b_Mod_empty 7 = .ok (.getfield 38, 3) := by decide +kernel
theorem d_Mod_empty_10 : decode b_Mod_empty 10 = .ok (.iload_n 1, 1) := by decide +kernel
theorem d_Mod_empty_11 : decode b_Mod_empty 11 = .ok (.iaload, 1) := by decide +kernel
theorem d_Mod_empty_12 : decode b_Mod_empty 12 = .ok (.istore_n 3, 1) := by decide +kernel
theorem d_Mod_empty_13 : decode b_Mod_empty 13 = .ok (.sipush 3100, 3) := by decide +kernel
theorem d_Mod_empty_16 : decode b_Mod_empty 16 = .ok (.aload_n 0, 1) := by decide +kernel
theorem d_Mod_empty_17 : decode b_Mod_empty 17 = .ok (.invokevirtual 93, 3) := by decide +kernel
theorem d_Mod_empty_20 : decode b_Mod_empty 20 = .ok (.iadd, 1) := by decide +kernel
theorem d_Mod_empty_21 : decode b_Mod_empty 21 = .ok (.istore 4, 2) := by decide +kernel
theorem d_Mod_empty_23 : decode b_Mod_empty 23 = .ok (.iload_n 2, 1) := by decide +kernel
theorem d_Mod_empty_24 : decode b_Mod_empty 24 = .ok (.iload_n 3, 1) := by decide +kernel
theorem d_Mod_empty_25 : decode b_Mod_empty 25 = .ok (.iadd, 1) := by decide +kernel
theorem d_Mod_empty_26 : decode b_Mod_empty 26 = .ok (.istore 5, 2) := by decide +kernel
theorem d_Mod_empty_28 : decode b_Mod_empty 28 = .ok (.iload 5, 2) := by decide +kernel
theorem d_Mod_empty_30 : decode b_Mod_empty 30 = .ok (.iload 4, 2) := by decide +kernel
theorem d_Mod_empty_32 : decode b_Mod_empty 32 = .ok (.if_icmp .ge 19, 3) := by decide +kernel
theorem d_Mod_empty_35 : decode b_Mod_empty 35 = .ok (.aload_n 0, 1) := by decide +kernel
theorem d_Mod_empty_36 : decode b_Mod_empty 36 = .ok (.iload 5, 2) := by decide +kernel
theorem d_Mod_empty_38 : decode b_Mod_empty 38 = .ok (.iload 5, 2) := by decide +kernel
theorem d_Mod_empty_40 : decode b_Mod_empty 40 = .ok (.iload_n 3, 1) := by decide +kernel
theorem d_Mod_empty_41 : decode b_Mod_empty 41 = .ok (.isub, 1) := by decide +kernel
theorem d_Mod_empty_42 : decode b_Mod_empty 42 = .ok (.invokevirtual 123, 3) := by decide +kernel
theorem d_Mod_empty_45 : decode b_Mod_empty 45 = .ok (.iinc 5 1, 3) := by decide +kernel
theorem d_Mod_empty_48 : decode b_Mod_empty 48 = .ok (.goto (-20), 3) := by decide +kernel
theorem d_Mod_empty_51 : decode b_Mod_empty 51 = .ok (.aload_n 0, 1) := by decide +kernel
theorem d_Mod_empty_52 : decode b_Mod_empty 52 = .ok (.getfield 38, 3) := by decide +kernel
theorem d_Mod_empty_55 : decode b_Mod_empty 55 = .ok (.iload_n 1, 1) := by decide +kernel
theorem d_Mod_empty_56 : decode b_Mod_empty 56 = .ok (.iconst 0, 1) := by decide +kernel
theorem d_Mod_empty_57 : decode b_Mod_empty 57 = .ok (.iastore, 1) := by decide +kernel
theorem d_Mod_empty_58 : decode b_Mod_empty 58 = .ok (.return_, 1) := by decide +kernel
theorem d_Mod_make_0 : decode b_Mod_make 0 = .ok (.aload_n 0, 1) := by decide +kernel
theorem d_Mod_make_1 : decode b_Mod_make 1 = .ok (.iload_n 1, 1) := by decide +kernel
theorem d_Mod_make_2 : decode b_Mod_make 2 = .ok (.invokevirtual 119, 3) := by decide +kernel
theorem d_Mod_make_5 : decode b_Mod_make 5 = .ok (.istore_n 3, 1) := by decide +kernel
theorem d_Mod_make_6 : decode b_Mod_make 6 = .ok (.sipush 3100, 3) := by decide +kernel
theorem d_Mod_make_9 : decode b_Mod_make 9 = .ok (.aload_n 0, 1) := by decide +kernel
theorem d_Mod_make_10 : decode b_Mod_make 10 = .ok (.invokevirtual 93, 3) := by decide +kernel
theorem d_Mod_make_13 : decode b_Mod_make 13 = .ok (.iadd, 1) := by decide +kernel
theorem d_Mod_make_14 : decode b_Mod_make 14 = .ok (.iconst 1, 1) := by decide +kernel
theorem d_Mod_make_15 : decode b_Mod_make 15 = .ok (.isub, 1) := by decide +kernel
theorem d_Mod_make_16 : decode b_Mod_make 16 = .ok (.istore 4, 2) := by decide +kernel
theorem d_Mod_make_18 : decode b_Mod_make 18 = .ok (.iload 4, 2) := by decide +kernel
theorem d_Mod_make_20 : decode b_Mod_make 20 = .ok (.iload_n 3, 1) := by decide +kernel
theorem d_Mod_make_21 : decode b_Mod_make 21 = .ok (.if_icmp .lt 19, 3) := by decide +kernel
theorem d_Mod_make_24 : decode b_Mod_make 24 = .ok (.aload_n 0, 1) := by decide +kernel
theorem d_Mod_make_25 : decode b_Mod_make 25 = .ok (.iload 4, 2) := by decide +kernel
theorem d_Mod_make_27 : decode b_Mod_make 27 = .ok (.iload 4, 2) := by decide +kernel
theorem d_Mod_make_29 : decode b_Mod_make 29 = .ok (.iload_n 2, 1) := by decide +kernel
theorem d_Mod_make_30 : decode b_Mod_make 30 = .ok (.iadd, 1) := by decide +kernel
theorem d_Mod_make_31 : decode b_Mod_make 31 = .ok (.invokevirtual 123, 3) := by decide +kernel
theorem d_Mod_make_34 : decode b_Mod_make 34 = .ok (.iinc 4 (-1), 3) := by decide +kernel
theorem d_Mod_make_37 : decode b_Mod_make 37 = .ok (.goto (-19), 3) := by decide +kernel
theorem d_Mod_make_40 : decode b_Mod_make 40 = .ok (.aload_n 0, 1) := by decide +kernel
theorem d_Mod_make_41 : decode b_Mod_make 41 = .ok (.getfield 38, 3) := by decide +kernel
theorem d_Mod_make_44 : decode b_Mod_make 44 = .ok (.iload_n 1, 1) := by decide +kernel
theorem d_Mod_make_45 : decode b_Mod_make 45 = .ok (.iload_n 2, 1) := by decide +kernel
theorem d_Mod_make_46 : decode b_Mod_make 46 = .ok (.iastore, 1) := by decide +kernel
theorem d_Mod_make_47 : decode b_Mod_make 47 = .ok (.return_, 1) := by decide +kernel
end
section
theorem d_Mod_close_0 : decode b_Mod_close 0 = .ok (.aload_n 0, 1) := by decide +kernel
theorem d_Mod_close_1 : decode b_Mod_close 1 = .ok (.iconst 0, 1) := by decide +kernel
theorem d_Mod_close_2 : decode b_Mod_close 2 = .ok (.putfield 81, 3) := by decide +kernel
theorem d_Mod_close_5 : decode b_Mod_close 5 = .ok (.aload_n 0, 1) := by decide +kernel
theorem d_Mod_close_6 : decode b_Mod_close 6 = .ok (.getfield 97, 3) := by decide +kernel
theorem d_Mod_close_9 : decode b_Mod_close 9 = .ok (.ifCond .eq 21, 3) := by decide +kernel
theorem d_Mod_close_12 : decode b_Mod_close 12 = .ok (.iload_n 1, 1) := by decide +kernel
theorem d_Mod_close_13 : decode b_Mod_close 13 = .ok (.ifCond .lt 17, 3) := by decide +kernel
theorem d_Mod_close_16 : decode b_Mod_close 16 = .ok (.iload_n 1, 1) := by decide +kernel
theorem d_Mod_close_17 : decode b_Mod_close 17 = .ok (.bipush 7, 2) := by decide +kernel
theorem d_Mod_close_19 : decode b_Mod_close 19 = .ok (.if_icmp .gt 11, 3) := by decide +kernel
theorem d_Mod_close_22 : decode b_Mod_close 22 = .ok (.aload_n 0, 1) := by decide +kernel
theorem d_Mod_close_23 : decode b_Mod_close 23 = .ok (.iconst 1, 1) := by decide +kernel
theorem d_Mod_close_24 : decode b_Mod_close 24 = .ok (.invokevirtual 100, 3) := by decide +kernel
theorem d_Mod_close_27 : decode b_Mod_close 27 = .ok (.ifCond .ne 5, 3) := by decide +kernel
theorem d_Mod_close_30 : decode b_Mod_close 30 = .ok (.iconst 0, 1) := by decide +kernel
theorem d_Mod_close_31 : decode b_Mod_close 31 = .ok (.ireturn, 1) := by decide +kernel
theorem d_Mod_close_32 : decode b_Mod_close 32 = .ok (.aload_n 0, 1) := by decide +kernel
theorem d_Mod_close_33 : decode b_Mod_close 33 = .ok (.getfield 31, 3) := by decide +kernel
theorem d_Mod_close_36 : decode b_Mod_close 36 = .ok (.aload_n 0, 1) := by decide +kernel
theorem d_Mod_close_37 : decode b_Mod_close 37 = .ok (.getfield 97, 3) := by decide +kernel
theorem d_Mod_close_40 : decode b_Mod_close 40 = .ok (.iconst 1, 1) := by decide +kernel
theorem d_Mod_close_41 : decode b_Mod_close 41 = .ok (.isub, 1) := by decide +kernel
theorem d_Mod_close_42 : decode b_Mod_close 42 = .ok (.iaload, 1) := by decide +kernel
theorem d_Mod_close_43 : decode b_Mod_close 43 = .ok (.istore_n 2, 1) := by decide +kernel
theorem d_Mod_close_44 : decode b_Mod_close 44 = .ok (.aload_n 0, 1) := by decide +kernel
theorem d_Mod_close_45 : decode b_Mod_close 45 = .ok (.invokevirtual 104, 3) := by decide +kernel
theorem d_Mod_close_48 : decode b_Mod_close 48 = .ok (.istore_n 3, 1) := by decide +kernel
theorem d_Mod_close_49 : decode b_Mod_close 49 = .ok (.lconst 0, 1) := by decide +kernel
theorem d_Mod_close_50 : decode b_Mod_close 50 = .ok (.lstore 4, 2) := by decide +kernel
theorem d_Mod_close_52 : decode b_Mod_close 52 = .ok (.lconst 0, 1) := by decide +kernel
theorem d_Mod_close_53 : decode b_Mod_close 53 = .ok (.lstore 6, 2) := by decide +kernel
theorem d_Mod_close_55 : decode b_Mod_close 55 = .ok (.lconst 0, 1) := by decide +kernel
theorem d_Mod_close_56 : decode b_Mod_close 56 = .ok (.lstore 8, 2) := by decide +kernel
theorem d_Mod_close_58 : decode b_Mod_close 58 = .ok (.iload_n 2, 1) := by decide +kernel
theorem d_Mod_close_59 : decode b_Mod_close 59 = .ok (.istore 10, 2) := by decide +kernel
theorem d_Mod_close_61 : decode b_Mod_close 61 = .ok (.iload 10, 2) := by decide +kernel
theorem d_Mod_close_63 : decode b_Mod_close 63 = .ok (.aload_n 0, 1) := by decide +kernel
theorem d_Mod_close_64 : decode b_Mod_close 64 = .ok (.getfield 90, 3) := by decide +kernel
theorem d_Mod_close_67 : decode b_Mod_close 67 = .ok (.if_icmp .ge 292, 3) := by decide +kernel
theorem d_Mod_close_70 : decode b_Mod_close 70 = .ok (.aload_n 0, 1) := by decide +kernel
theorem d_Mod_close_71 : decode b_Mod_close 71 = .ok (.iload 10, 2) := by decide +kernel
theorem d_Mod_close_73 : decode b_Mod_close 73 = .ok (.invokevirtual 116, 3) := by decide +kernel
theorem d_Mod_close_76 : decode b_Mod_close 76 = .ok (.ifCond .eq 14, 3) := by decide +kernel
theorem d_Mod_close_79 : decode b_Mod_close 79 = .ok (.aload_n 0, 1) := by decide +kernel
theorem d_Mod_close_80 : decode b_Mod_close 80 = .ok (.getfield 22, 3) := by decide +kernel
theorem d_Mod_close_83 : decode b_Mod_close 83 = .ok (.iload 10, 2) := by decide +kernel
theorem d_Mod_close_85 : decode b_Mod_close 85 = .ok (.iaload, 1) := by decide +kernel
theorem d_Mod_close_86 : decode b_Mod_close 86 = .ok (.i2l, 1) := by decide +kernel
theorem d_Mod_close_87 : decode b_Mod_close 87 = .ok (.goto 4, 3) := by decide +kernel
theorem d_Mod_close_90 : decode b_Mod_close 90 = .ok (.lconst 0, 1) := by decide +kernel
theorem d_Mod_close_91 : decode b_Mod_close 91 = .ok (.lstore 11, 2) := by decide +kernel
theorem d_Mod_close_93 : decode b_Mod_close 93 = .ok (.aload_n 0, 1) := by decide +kernel
theorem d_Mod_close_94 : decode b_Mod_close 94 = .ok (.getfield 7, 3) := by decide +kernel
theorem d_Mod_close_97 : decode b_Mod_close 97 = .ok (.iload 10, 2) := by decide +kernel
theorem d_Mod_close_99 : decode b_Mod_close 99 = .ok (.iaload, 1) := by decide +kernel
theorem d_Mod_close_100 : decode b_Mod_close 100 = .ok (.iconst 3, 1) := by decide +kernel
theorem d_Mod_close_101 : decode b_Mod_close 101 = .ok (.if_icmp .eq 7, 3) := by decide +kernel
theorem d_Mod_close_104 : decode b_Mod_close 104 = .ok (.iconst 1, 1) := by decide +kernel
theorem d_Mod_close_105 : decode b_Mod_close 105 = .ok (.goto 4, 3) := by decide +kernel
theorem d_Mod_close_108 : decode b_Mod_close 108 = .ok (.iconst 0, 1) := by decide +kernel
theorem d_Mod_close_109 : decode b_Mod_close 109 = .ok (.istore 13, 2) := by decide +kernel
theorem d_Mod_close_111 : decode b_Mod_close 111 = .ok (.iload_n 3, 1) := by decide +kernel
theorem d_Mod_close_112 : decode b_Mod_close 112 = .ok (.ifCond .eq 115, 3) := by decide +kernel
theorem d_Mod_close_115 : decode b_Mod_close 115 = .ok (.lload 6, 2) := by decide +kernel
theorem d_Mod_close_117 : decode b_Mod_close 117 = .ok (.iload 13, 2) := by decide +kernel
theorem d_Mod_close_119 : decode b_Mod_close 119 = .ok (.ifCond .eq 23, 3) := by decide +kernel
theorem d_Mod_close_122 : decode b_Mod_close 122 = .ok (.aload_n 0, 1) := by decide +kernel
theorem d_Mod_close_123 : decode b_Mod_close 123 = .ok (.getfield 16, 3) := by decide +kernel
theorem d_Mod_close_126 : decode b_Mod_close 126 = .ok (.iload 10, 2) := by decide +kernel
theorem d_Mod_close_128 : decode b_Mod_close 128 = .ok (.iaload, 1) := by decide +kernel
theorem d_Mod_close_129 : decode b_Mod_close 129 = .ok (.i2l, 1) := by decide +kernel
theorem d_Mod_close_130 : decode b_Mod_close 130 = .ok (.aload_n 0, 1) := by decide +kernel
theorem d_Mod_close_131 : decode b_Mod_close 131 = .ok (.getfield 19, 3) := by decide +kernel
theorem d_Mod_close_134 : decode b_Mod_close 134 = .ok (.iload 10, 2) := by decide +kernel
theorem d_Mod_close_136 : decode b_Mod_close 136 = .ok (.iaload, 1) := by decide +kernel
theorem d_Mod_close_137 : decode b_Mod_close 137 = .ok (.i2l, 1) := by decide +kernel
theorem d_Mod_close_138 : decode b_Mod_close 138 = .ok (.ladd, 1) := by decide +kernel
theorem d_Mod_close_139 : decode b_Mod_close 139 = .ok (.goto 11, 3) := by decide +kernel
theorem d_Mod_close_142 : decode b_Mod_close 142 = .ok (.aload_n 0, 1) := by decide +kernel
theorem d_Mod_close_143 : decode b_Mod_close 143 = .ok (.getfield 13, 3) := by decide +kernel
theorem d_Mod_close_146 : decode b_Mod_close 146 = .ok (.iload 10, 2) := by decide +kernel
theorem d_Mod_close_148 : decode b_Mod_close 148 = .ok (.iaload, 1) := by decide +kernel
theorem d_Mod_close_149 : decode b_Mod_close 149 = .ok (.i2l, 1) := by decide +kernel
theorem d_Mod_close_150 : decode b_Mod_close 150 = .ok (.ladd, 1) := by decide +kernel
theorem d_Mod_close_151 : decode b_Mod_close 151 = .ok (.lstore 6, 2) := by decide +kernel
theorem d_Mod_close_153 : decode b_Mod_close 153 = .ok (.iload 13, 2) := by decide +kernel
theorem d_Mod_close_155 : decode b_Mod_close 155 = .ok (.ifCond .eq 46, 3) := by decide +kernel
theorem d_Mod_close_158 : decode b_Mod_close 158 = .ok (.aload_n 0, 1) := by decide +kernel
theorem d_Mod_close_159 : decode b_Mod_close 159 = .ok (.getfield 13, 3) := by decide +kernel
theorem d_Mod_close_162 : decode b_Mod_close 162 = .ok (.iload 10, 2) := by decide +kernel
theorem d_Mod_close_164 : decode b_Mod_close 164 = .ok (.iaload, 1) := by decide +kernel
theorem d_Mod_close_165 : decode b_Mod_close 165 = .ok (.ldc 115, 2) := by decide +kernel
theorem d_Mod_close_167 : decode b_Mod_close 167 = .ok (.if_icmp .eq 34, 3) := by decide +kernel
theorem d_Mod_close_170 : decode b_Mod_close 170 = .ok (.aload_n 0, 1) := by decide +kernel
theorem d_Mod_close_171 : decode b_Mod_close 171 = .ok (.getfield 13, 3) := by decide +kernel
theorem d_Mod_close_174 : decode b_Mod_close 174 = .ok (.iload 10, 2) := by decide +kernel
theorem d_Mod_close_176 : decode b_Mod_close 176 = .ok (.iaload, 1) := by decide +kernel
theorem d_Mod_close_177 : decode b_Mod_close 177 = .ok (.i2l, 1) := by decide +kernel
theorem d_Mod_close_178 : decode b_Mod_close 178 = .ok (.lload 11, 2) := by decide +kernel
theorem d_Mod_close_180 : decode b_Mod_close 180 = .ok (.ladd, 1) := by decide +kernel
theorem d_Mod_close_181 : decode b_Mod_close 181 = .ok (.lload 4, 2) := by decide +kernel
theorem d_Mod_close_183 : decode b_Mod_close 183 = .ok (.lcmp, 1) := by decide +kernel
theorem d_Mod_close_184 : decode b_Mod_close 184 = .ok (.ifCond .le 17, 3) := by decide +kernel
theorem d_Mod_close_187 : decode b_Mod_close 187 = .ok (.aload_n 0, 1) := by decide +kernel
theorem d_Mod_close_188 : decode b_Mod_close 188 = .ok (.getfield 13, 3) := by decide +kernel
theorem d_Mod_close_191 : decode b_Mod_close 191 = .ok (.iload 10, 2) := by decide +kernel
theorem d_Mod_close_193 : decode b_Mod_close 193 = .ok (.iaload, 1) := by decide +kernel
theorem d_Mod_close_194 : decode b_Mod_close 194 = .ok (.i2l, 1) := by decide +kernel
theorem d_Mod_close_195 : decode b_Mod_close 195 = .ok (.lload 11, 2) := by decide +kernel
theorem d_Mod_close_197 : decode b_Mod_close 197 = .ok (.ladd, 1) := by decide +kernel
theorem d_Mod_close_198 : decode b_Mod_close 198 = .ok (.goto 5, 3) := by decide +kernel
theorem d_Mod_close_201 : decode b_Mod_close 201 = .ok (.lload 4, 2) := by decide +kernel
theorem d_Mod_close_203 : decode b_Mod_close 203 = .ok (.lstore 4, 2) := by decide +kernel
theorem d_Mod_close_205 : decode b_Mod_close 205 = .ok (.iload 13, 2) := by decide +kernel
theorem d_Mod_close_207 : decode b_Mod_close 207 = .ok (.ifCond .eq 14, 3) := by decide +kernel
theorem d_Mod_close_210 : decode b_Mod_close 210 = .ok (.aload_n 0, 1) := by decide +kernel
theorem d_Mod_close_211 : decode b_Mod_close 211 = .ok (.getfield 19, 3) := by decide +kernel
theorem d_Mod_close_214 : decode b_Mod_close 214 = .ok (.iload 10, 2) := by decide +kernel
theorem d_Mod_close_216 : decode b_Mod_close 216 = .ok (.iaload, 1) := by decide +kernel
theorem d_Mod_close_217 : decode b_Mod_close 217 = .ok (.i2l, 1) := by decide +kernel
theorem d_Mod_close_218 : decode b_Mod_close 218 = .ok (.goto 4, 3) := by decide +kernel
theorem d_Mod_close_221 : decode b_Mod_close 221 = .ok (.lconst 0, 1) := by decide +kernel
theorem d_Mod_close_222 : decode b_Mod_close 222 = .ok (.lstore 8, 2) := by decide +kernel
theorem d_Mod_close_224 : decode b_Mod_close 224 = .ok (.goto 120, 3) := by decide +kernel
theorem d_Mod_close_227 : decode b_Mod_close 227 = .ok (.lload 4, 2) := by decide +kernel
theorem d_Mod_close_229 : decode b_Mod_close 229 = .ok (.aload_n 0, 1) := by decide +kernel
theorem d_Mod_close_230 : decode b_Mod_close 230 = .ok (.getfield 13, 3) := by decide +kernel
theorem d_Mod_close_233 : decode b_Mod_close 233 = .ok (.iload 10, 2) := by decide +kernel
theorem d_Mod_close_235 : decode b_Mod_close 235 = .ok (.iaload, 1) := by decide +kernel
theorem d_Mod_close_236 : decode b_Mod_close 236 = .ok (.i2l, 1) := by decide +kernel
theorem d_Mod_close_237 : decode b_Mod_close 237 = .ok (.ladd, 1) := by decide +kernel
theorem d_Mod_close_238 : decode b_Mod_close 238 = .ok (.lstore 4, 2) := by decide +kernel
theorem d_Mod_close_240 : decode b_Mod_close 240 = .ok (.iload 13, 2) := by decide +kernel
theorem d_Mod_close_242 : decode b_Mod_close 242 = .ok (.ifCond .eq 46, 3) := by decide +kernel
theorem d_Mod_close_245 : decode b_Mod_close 245 = .ok (.aload_n 0, 1) := by decide +kernel
theorem d_Mod_close_246 : decode b_Mod_close 246 = .ok (.getfield 16, 3) := by decide +kernel
theorem d_Mod_close_249 : decode b_Mod_close 249 = .ok (.iload 10, 2) := by decide +kernel
theorem d_Mod_close_251 : decode b_Mod_close 251 = .ok (.iaload, 1) := by decide +kernel
theorem d_Mod_close_252 : decode b_Mod_close 252 = .ok (.ldc 115, 2) := by decide +kernel
theorem d_Mod_close_254 : decode b_Mod_close 254 = .ok (.if_icmp .eq 34, 3) := by decide +kernel
theorem d_Mod_close_257 : decode b_Mod_close 257 = .ok (.aload_n 0, 1) := by decide +kernel
theorem d_Mod_close_258 : decode b_Mod_close 258 = .ok (.getfield 16, 3) := by decide +kernel
theorem d_Mod_close_261 : decode b_Mod_close 261 = .ok (.iload 10, 2) := by decide +kernel
theorem d_Mod_close_263 : decode b_Mod_close 263 = .ok (.iaload, 1) := by decide +kernel
theorem d_Mod_close_264 : decode b_Mod_close 264 = .ok (.i2l, 1) := by decide +kernel
theorem d_Mod_close_265 : decode b_Mod_close 265 = .ok (.lload 11, 2) := by decide +kernel
theorem d_Mod_close_267 : decode b_Mod_close 267 = .ok (.lsub, 1) := by decide +kernel
theorem d_Mod_close_268 : decode b_Mod_close 268 = .ok (.lload 6, 2) := by decide +kernel
theorem d_Mod_close_270 : decode b_Mod_close 270 = .ok (.lcmp, 1) := by decide +kernel
theorem d_Mod_close_271 : decode b_Mod_close 271 = .ok (.ifCond .le 17, 3) := by decide +kernel
theorem d_Mod_close_274 : decode b_Mod_close 274 = .ok (.aload_n 0, 1) := by decide +kernel
theorem d_Mod_close_275 : decode b_Mod_close 275 = .ok (.getfield 16, 3) := by decide +kernel
theorem d_Mod_close_278 : decode b_Mod_close 278 = .ok (.iload 10, 2) := by decide +kernel
theorem d_Mod_close_280 : decode b_Mod_close 280 = .ok (.iaload, 1) := by decide +kernel
theorem d_Mod_close_281 : decode b_Mod_close 281 = .ok (.i2l, 1) := by decide +kernel
theorem d_Mod_close_282 : decode b_Mod_close 282 = .ok (.lload 11, 2) := by decide +kernel
theorem d_Mod_close_284 : decode b_Mod_close 284 = .ok (.lsub, 1) := by decide +kernel
theorem d_Mod_close_285 : decode b_Mod_close 285 = .ok (.goto 5, 3) := by decide +kernel
theorem d_Mod_close_288 : decode b_Mod_close 288 = .ok (.lload 6, 2) := by decide +kernel
theorem d_Mod_close_290 : decode b_Mod_close 290 = .ok (.lstore 6, 2) := by decide +kernel
theorem d_Mod_close_292 : decode b_Mod_close 292 = .ok (.iload 13, 2) := by decide +kernel
theorem d_Mod_close_294 : decode b_Mod_close 294 = .ok (.ifCond .eq 46, 3) := by decide +kernel
theorem d_Mod_close_297 : decode b_Mod_close 297 = .ok (.aload_n 0, 1) := by decide +kernel
theorem d_Mod_close_298 : decode b_Mod_close 298 = .ok (.getfield 19, 3) := by decide +kernel
theorem d_Mod_close_301 : decode b_Mod_close 301 = .ok (.iload 10, 2) := by decide +kernel
theorem d_Mod_close_303 : decode b_Mod_close 303 = .ok (.iaload, 1) := by decide +kernel
theorem d_Mod_close_304 : decode b_Mod_close 304 = .ok (.ldc 115, 2) := by decide +kernel
theorem d_Mod_close_306 : decode b_Mod_close 306 = .ok (.if_icmp .eq 34, 3) := by decide +kernel
theorem d_Mod_close_309 : decode b_Mod_close 309 = .ok (.aload_n 0, 1) := by decide +kernel
theorem d_Mod_close_310 : decode b_Mod_close 310 = .ok (.getfield 19, 3) := by decide +kernel
theorem d_Mod_close_313 : decode b_Mod_close 313 = .ok (.iload 10, 2) := by decide +kernel
theorem d_Mod_close_315 : decode b_Mod_close 315 = .ok (.iaload, 1) := by decide +kernel
theorem d_Mod_close_316 : decode b_Mod_close 316 = .ok (.i2l, 1) := by decide +kernel
theorem d_Mod_close_317 : decode b_Mod_close 317 = .ok (.lload 11, 2) := by decide +kernel
theorem d_Mod_close_319 : decode b_Mod_close 319 = .ok (.ladd, 1) := by decide +kernel
theorem d_Mod_close_320 : decode b_Mod_close 320 = .ok (.lload 8, 2) := by decide +kernel
theorem d_Mod_close_322 : decode b_Mod_close 322 = .ok (.lcmp, 1) := by decide +kernel
theorem d_Mod_close_323 : decode b_Mod_close 323 = .ok (.ifCond .le 17, 3) := by decide +kernel
theorem d_Mod_close_326 : decode b_Mod_close 326 = .ok (.aload_n 0, 1) := by decide +kernel
theorem d_Mod_close_327 : decode b_Mod_close 327 = .ok (.getfield 19, 3) := by decide +kernel
theorem d_Mod_close_330 : decode b_Mod_close 330 = .ok (.iload 10, 2) := by decide +kernel
theorem d_Mod_close_332 : decode b_Mod_close 332 = .ok (.iaload, 1) := by decide +kernel
theorem d_Mod_close_333 : decode b_Mod_close 333 = .ok (.i2l, 1) := by decide +kernel
theorem d_Mod_close_334 : decode b_Mod_close 334 = .ok (.lload 11, 2) := by decide +kernel
theorem d_Mod_close_336 : decode b_Mod_close 336 = .ok (.ladd, 1) := by decide +kernel
theorem d_Mod_close_337 : decode b_Mod_close 337 = .ok (.goto 5, 3) := by decide +kernel
theorem d_Mod_close_340 : decode b_Mod_close 340 = .ok (.lload 8, 2) := by decide +kernel
theorem d_Mod_close_342 : decode b_Mod_close 342 = .ok (.lstore 8, 2) := by decide +kernel
theorem d_Mod_close_344 : decode b_Mod_close 344 = .ok (.iload 10, 2) := by decide +kernel
theorem d_Mod_close_346 : decode b_Mod_close 346 = .ok (.aload_n 0, 1) := by decide +kernel
theorem d_Mod_close_347 : decode b_Mod_close 347 = .ok (.getfield 28, 3) := by decide +kernel
theorem d_Mod_close_350 : decode b_Mod_close 350 = .ok (.iload 10, 2) := by decide +kernel
theorem d_Mod_close_352 : decode b_Mod_close 352 = .ok (.iaload, 1) := by decide +kernel
theorem d_Mod_close_353 : decode b_Mod_close 353 = .ok (.iadd, 1) := by decide +kernel
theorem d_Mod_close_354 : decode b_Mod_close 354 = .ok (.istore 10, 2) := by decide +kernel
theorem d_Mod_close_356 : decode b_Mod_close 356 = .ok (.goto (-295), 3) := by decide +kernel
theorem d_Mod_close_359 : decode b_Mod_close 359 = .ok (.lload 6, 2) := by decide +kernel
theorem d_Mod_close_361 : decode b_Mod_close 361 = .ok (.iload_n 3, 1) := by decide +kernel
theorem d_Mod_close_362 : decode b_Mod_close 362 = .ok (.ifCond .eq 8, 3) := by decide +kernel
theorem d_Mod_close_365 : decode b_Mod_close 365 = .ok (.lload 8, 2) := by decide +kernel
theorem d_Mod_close_367 : decode b_Mod_close 367 = .ok (.goto 4, 3) := by decide +kernel
theorem d_Mod_close_370 : decode b_Mod_close 370 = .ok (.lconst 0, 1) := by decide +kernel
theorem d_Mod_close_371 : decode b_Mod_close 371 = .ok (.lsub, 1) := by decide +kernel
theorem d_Mod_close_372 : decode b_Mod_close 372 = .ok (.lstore 6, 2) := by decide +kernel
theorem d_Mod_close_374 : decode b_Mod_close 374 = .ok (.lload 4, 2) := by decide +kernel
theorem d_Mod_close_376 : decode b_Mod_close 376 = .ok (.invokestatic 127, 3) := by decide +kernel
theorem d_Mod_close_379 : decode b_Mod_close 379 = .ok (.ifCond .eq 33, 3) := by decide +kernel
theorem d_Mod_close_382 : decode b_Mod_close 382 = .ok (.lload 6, 2) := by decide +kernel
theorem d_Mod_close_384 : decode b_Mod_close 384 = .ok (.invokestatic 127, 3) := by decide +kernel
theorem d_Mod_close_387 : decode b_Mod_close 387 = .ok (.ifCond .eq 25, 3) := by decide +kernel
theorem d_Mod_close_390 : decode b_Mod_close 390 = .ok (.lload 8, 2) := by decide +kernel
theorem d_Mod_close_392 : decode b_Mod_close 392 = .ok (.invokestatic 127, 3) := by decide +kernel
theorem d_Mod_close_395 : decode b_Mod_close 395 = .ok (.ifCond .eq 17, 3) := by decide +kernel
theorem d_Mod_close_398 : decode b_Mod_close 398 = .ok (.aload_n 0, 1) := by decide +kernel
theorem d_Mod_close_399 : decode b_Mod_close 399 = .ok (.iload_n 2, 1) := by decide +kernel
theorem d_Mod_close_400 : decode b_Mod_close 400 = .ok (.aload_n 0, 1) := by decide +kernel
theorem d_Mod_close_401 : decode b_Mod_close 401 = .ok (.getfield 90, 3) := by decide +kernel
theorem d_Mod_close_404 : decode b_Mod_close 404 = .ok (.invokevirtual 131, 3) := by decide +kernel
theorem d_Mod_close_407 : decode b_Mod_close 407 = .ok (.bipush 99, 2) := by decide +kernel
theorem d_Mod_close_409 : decode b_Mod_close 409 = .ok (.if_icmp .le 5, 3) := by decide +kernel
theorem d_Mod_close_412 : decode b_Mod_close 412 = .ok (.iconst 0, 1) := by decide +kernel
theorem d_Mod_close_413 : decode b_Mod_close 413 = .ok (.ireturn, 1) := by decide +kernel
theorem d_Mod_close_414 : decode b_Mod_close 414 = .ok (.aload_n 0, 1) := by decide +kernel
theorem d_Mod_close_415 : decode b_Mod_close 415 = .ok (.iload_n 1, 1) := by decide +kernel
theorem d_Mod_close_416 : decode b_Mod_close 416 = .ok (.invokevirtual 135, 3) := by decide +kernel
theorem d_Mod_close_419 : decode b_Mod_close 419 = .ok (.aload_n 0, 1) := by decide +kernel
theorem d_Mod_close_420 : decode b_Mod_close 420 = .ok (.getfield 90, 3) := by decide +kernel
theorem d_Mod_close_423 : decode b_Mod_close 423 = .ok (.iload_n 2, 1) := by decide +kernel
theorem d_Mod_close_424 : decode b_Mod_close 424 = .ok (.isub, 1) := by decide +kernel
theorem d_Mod_close_425 : decode b_Mod_close 425 = .ok (.istore 10, 2) := by decide +kernel
theorem d_Mod_close_427 : decode b_Mod_close 427 = .ok (.aload_n 0, 1) := by decide +kernel
theorem d_Mod_close_428 : decode b_Mod_close 428 = .ok (.iload_n 1, 1) := by decide +kernel
theorem d_Mod_close_429 : decode b_Mod_close 429 = .ok (.iload 10, 2) := by decide +kernel
theorem d_Mod_close_431 : decode b_Mod_close 431 = .ok (.iconst 1, 1) := by decide +kernel
theorem d_Mod_close_432 : decode b_Mod_close 432 = .ok (.iadd, 1) := by decide +kernel
theorem d_Mod_close_433 : decode b_Mod_close 433 = .ok (.invokevirtual 139, 3) := by decide +kernel
theorem d_Mod_close_436 : decode b_Mod_close 436 = .ok (.aload_n 0, 1) := by decide +kernel
theorem d_Mod_close_437 : decode b_Mod_close 437 = .ok (.iload_n 1, 1) := by decide +kernel
theorem d_Mod_close_438 : decode b_Mod_close 438 = .ok (.invokevirtual 119, 3) := by decide +kernel
theorem d_Mod_close_441 : decode b_Mod_close 441 = .ok (.istore 11, 2) := by decide +kernel
theorem d_Mod_close_443 : decode b_Mod_close 443 = .ok (.aload_n 0, 1) := by decide +kernel
theorem d_Mod_close_444 : decode b_Mod_close 444 = .ok (.getfield 7, 3) := by decide +kernel
theorem d_Mod_close_447 : decode b_Mod_close 447 = .ok (.iload 11, 2) := by decide +kernel
theorem d_Mod_close_449 : decode b_Mod_close 449 = .ok (.iload_n 3, 1) := by decide +kernel
theorem d_Mod_close_450 : decode b_Mod_close 450 = .ok (.ifCond .eq 7, 3) := by decide +kernel
theorem d_Mod_close_453 : decode b_Mod_close 453 = .ok (.iconst 5, 1) := by decide +kernel
theorem d_Mod_close_454 : decode b_Mod_close 454 = .ok (.goto 4, 3) := by decide +kernel
theorem d_Mod_close_457 : decode b_Mod_close 457 = .ok (.iconst 4, 1) := by decide +kernel
theorem d_Mod_close_458 : decode b_Mod_close 458 = .ok (.iastore, 1) := by decide +kernel
theorem d_Mod_close_459 : decode b_Mod_close 459 = .ok (.aload_n 0, 1) := by decide +kernel
theorem d_Mod_close_460 : decode b_Mod_close 460 = .ok (.getfield 13, 3) := by decide +kernel
theorem d_Mod_close_463 : decode b_Mod_close 463 = .ok (.iload 11, 2) := by decide +kernel
theorem d_Mod_close_465 : decode b_Mod_close 465 = .ok (.lload 4, 2) := by decide +kernel
theorem d_Mod_close_467 : decode b_Mod_close 467 = .ok (.l2i, 1) := by decide +kernel
theorem d_Mod_close_468 : decode b_Mod_close 468 = .ok (.iastore, 1) := by decide +kernel
theorem d_Mod_close_469 : decode b_Mod_close 469 = .ok (.aload_n 0, 1) := by decide +kernel
theorem d_Mod_close_470 : decode b_Mod_close 470 = .ok (.getfield 16, 3) := by decide +kernel
theorem d_Mod_close_473 : decode b_Mod_close 473 = .ok (.iload 11, 2) := by decide +kernel
theorem d_Mod_close_475 : decode b_Mod_close 475 = .ok (.lload 6, 2) := by decide +kernel
theorem d_Mod_close_477 : decode b_Mod_close 477 = .ok (.l2i, 1) := by decide +kernel
theorem d_Mod_close_478 : decode b_Mod_close 478 = .ok (.iastore, 1) := by decide +kernel
theorem d_Mod_close_479 : decode b_Mod_close 479 = .ok (.aload_n 0, 1) := by decide +kernel
theorem d_Mod_close_480 : decode b_Mod_close 480 = .ok (.getfield 19, 3) := by decide +kernel
theorem d_Mod_close_483 : decode b_Mod_close 483 = .ok (.iload 11, 2) := by decide +kernel
theorem d_Mod_close_485 : decode b_Mod_close 485 = .ok (.lload 8, 2) := by decide +kernel
theorem d_Mod_close_487 : decode b_Mod_close 487 = .ok (.l2i, 1) := by decide +kernel
theorem d_Mod_close_488 : decode b_Mod_close 488 = .ok (.iastore, 1) := by decide +kernel
theorem d_Mod_close_489 : decode b_Mod_close 489 = .ok (.aload_n 0, 1) := by decide +kernel
theorem d_Mod_close_490 : decode b_Mod_close 490 = .ok (.getfield 22, 3) := by decide +kernel
theorem d_Mod_close_493 : decode b_Mod_close 493 = .ok (.iload 11, 2) := by decide +kernel
theorem d_Mod_close_495 : decode b_Mod_close 495 = .ok (.iconst 0, 1) := by decide +kernel
theorem d_Mod_close_496 : decode b_Mod_close 496 = .ok (.iastore, 1) := by decide +kernel
theorem d_Mod_close_497 : decode b_Mod_close 497 = .ok (.aload_n 0, 1) := by decide +kernel
theorem d_Mod_close_498 : decode b_Mod_close 498 = .ok (.getfield 25, 3) := by decide +kernel
theorem d_Mod_close_501 : decode b_Mod_close 501 = .ok (.iload 11, 2) := by decide +kernel
theorem d_Mod_close_503 : decode b_Mod_close 503 = .ok (.iconst 0, 1) := by decide +kernel
theorem d_Mod_close_504 : decode b_Mod_close 504 = .ok (.iastore, 1) := by decide +kernel
theorem d_Mod_close_505 : decode b_Mod_close 505 = .ok (.aload_n 0, 1) := by decide +kernel
theorem d_Mod_close_506 : decode b_Mod_close 506 = .ok (.getfield 28, 3) := by decide +kernel
theorem d_Mod_close_509 : decode b_Mod_close 509 = .ok (.iload 11, 2) := by decide +kernel
theorem d_Mod_close_511 : decode b_Mod_close 511 = .ok (.iload 10, 2) := by decide +kernel
theorem d_Mod_close_513 : decode b_Mod_close 513 = .ok (.iconst 1, 1) := by decide +kernel
theorem d_Mod_close_514 : decode b_Mod_close 514 = .ok (.iadd, 1) := by decide +kernel
theorem d_Mod_close_515 : decode b_Mod_close 515 = .ok (.iastore, 1) := by decide +kernel
theorem d_Mod_close_516 : decode b_Mod_close 516 = .ok (.iconst 0, 1) := by decide +kernel
theorem d_Mod_close_517 : decode b_Mod_close 517 = .ok (.istore 12, 2) := by decide +kernel
theorem d_Mod_close_519 : decode b_Mod_close 519 = .ok (.iload 12, 2) := by decide +kernel
theorem d_Mod_close_521 : decode b_Mod_close 521 = .ok (.iload 10, 2) := by decide +kernel
theorem d_Mod_close_523 : decode b_Mod_close 523 = .ok (.if_icmp .ge 24, 3) := by decide +kernel
theorem d_Mod_close_526 : decode b_Mod_close 526 = .ok (.aload_n 0, 1) := by decide +kernel
theorem d_Mod_close_527 : decode b_Mod_close 527 = .ok (.iload_n 2, 1) := by decide +kernel
theorem d_Mod_close_528 : decode b_Mod_close 528 = .ok (.iload 12, 2) := by decide +kernel
theorem d_Mod_close_530 : decode b_Mod_close 530 = .ok (.iadd, 1) := by decide +kernel
theorem d_Mod_close_531 : decode b_Mod_close 531 = .ok (.iload 11, 2) := by decide +kernel
theorem d_Mod_close_533 : decode b_Mod_close 533 = .ok (.iconst 1, 1) := by decide +kernel
theorem d_Mod_close_534 : decode b_Mod_close 534 = .ok (.iadd, 1) := by decide +kernel
theorem d_Mod_close_535 : decode b_Mod_close 535 = .ok (.iload 12, 2) := by decide +kernel
theorem d_Mod_close_537 : decode b_Mod_close 537 = .ok (.iadd, 1) := by decide +kernel
theorem d_Mod_close_538 : decode b_Mod_close 538 = .ok (.invokevirtual 123, 3) := by decide +kernel
theorem d_Mod_close_541 : decode b_Mod_close 541 = .ok (.iinc 12 1, 3) := by decide +kernel
theorem d_Mod_close_544 : decode b_Mod_close 544 = .ok (.goto (-25), 3) := by decide +kernel
theorem d_Mod_close_547 : decode b_Mod_close 547 = .ok (.aload_n 0, 1) := by decide +kernel
theorem d_Mod_close_548 : decode b_Mod_close 548 = .ok (.iload_n 2, 1) := by decide +kernel
theorem d_Mod_close_549 : decode b_Mod_close 549 = .ok (.putfield 90, 3) := by decide +kernel
theorem d_Mod_close_552 : decode b_Mod_close 552 = .ok (.aload_n 0, 1) := by decide +kernel
theorem d_Mod_close_553 : decode b_Mod_close 553 = .ok (.dup, 1) := by decide +kernel
theorem d_Mod_close_554 : decode b_Mod_close 554 = .ok (.getfield 97, 3) := by decide +kernel
theorem d_Mod_close_557 : decode b_Mod_close 557 = .ok (.iconst 1, 1) := by decide +kernel
theorem d_Mod_close_558 : decode b_Mod_close 558 = .ok (.isub, 1) := by decide +kernel
theorem d_Mod_close_559 : decode b_Mod_close 559 = .ok (.putfield 97, 3) := by decide +kernel
theorem d_Mod_close_562 : decode b_Mod_close 562 = .ok (.iconst 1, 1) := by decide +kernel
theorem d_Mod_close_563 : decode b_Mod_close 563 = .ok (.ireturn, 1) := by decide +kernel
theorem d_Mod_isFull_0 : decode b_Mod_isFull 0 = .ok (.iload_n 1, 1) := by decide +kernel
theorem d_Mod_isFull_1 : decode b_Mod_isFull 1 = .ok (.ifCond .lt 36, 3) := by decide +kernel
theorem d_Mod_isFull_4 : decode b_Mod_isFull 4 = .ok (.iload_n 1, 1) := by decide +kernel
theorem d_Mod_isFull_5 : decode b_Mod_isFull 5 = .ok (.bipush 8, 2) := by decide +kernel
theorem d_Mod_isFull_7 : decode b_Mod_isFull 7 = .ok (.if_icmp .ge 30, 3) := by decide +kernel
theorem d_Mod_isFull_10 : decode b_Mod_isFull 10 = .ok (.aload_n 0, 1) := by decide +kernel
theorem d_Mod_isFull_11 : decode b_Mod_isFull 11 = .ok (.getfield 38, 3) := by decide +kernel
theorem d_Mod_isFull_14 : decode b_Mod_isFull 14 = .ok (.iload_n 1, 1) := by decide +kernel
theorem d_Mod_isFull_15 : decode b_Mod_isFull 15 = .ok (.ifCond .lt 13, 3) := by decide +kernel
theorem d_Mod_isFull_18 : decode b_Mod_isFull 18 = .ok (.iload_n 1, 1) := by decide +kernel
theorem d_Mod_isFull_19 : decode b_Mod_isFull 19 = .ok (.bipush 8, 2) := by decide +kernel
theorem d_Mod_isFull_21 : decode b_Mod_isFull 21 = .ok (.if_icmp .ge 7, 3) := by decide +kernel
theorem d_Mod_isFull_24 : decode b_Mod_isFull 24 = .ok (.iload_n 1, 1) := by decide +kernel
theorem d_Mod_isFull_25 : decode b_Mod_isFull 25 = .ok (.goto 4, 3) := by decide +kernel
theorem d_Mod_isFull_28 : decode b_Mod_isFull 28 = .ok (.iconst 0, 1) := by decide +kernel
theorem d_Mod_isFull_29 : decode b_Mod_isFull 29 = .ok (.iaload, 1) := by decide +kernel
theorem d_Mod_isFull_30 : decode b_Mod_isFull 30 = .ok (.ifCond .le 7, 3) := by decide +kernel
theorem d_Mod_isFull_33 : decode b_Mod_isFull 33 = .ok (.iconst 1, 1) := by decide +kernel
theorem d_Mod_isFull_34 : decode b_Mod_isFull 34 = .ok (.goto 4, 3) := by decide +kernel
theorem d_Mod_isFull_37 : decode b_Mod_isFull 37 = .ok (.iconst 0, 1) := by decide +kernel
theorem d_Mod_isFull_38 : decode b_Mod_isFull 38 = .ok (.ireturn, 1) := by decide +kernel
theorem d_Mod_put_0 : decode b_Mod_put 0 = .ok (.aload_n 0, 1) := by decide +kernel
theorem d_Mod_put_1 : decode b_Mod_put 1 = .ok (.iconst 0, 1) := by decide +kernel
theorem d_Mod_put_2 : decode b_Mod_put 2 = .ok (.putfield 81, 3) := by decide +kernel
theorem d_Mod_put_5 : decode b_Mod_put 5 = .ok (.aload_n 0, 1) := by decide +kernel
theorem d_Mod_put_6 : decode b_Mod_put 6 = .ok (.getfield 97, 3) := by decide +kernel
theorem d_Mod_put_9 : decode b_Mod_put 9 = .ok (.ifCond .eq 35, 3) := by decide +kernel
theorem d_Mod_put_12 : decode b_Mod_put 12 = .ok (.aload_n 0, 1) := by decide +kernel
theorem d_Mod_put_13 : decode b_Mod_put 13 = .ok (.iload_n 1, 1) := by decide +kernel
theorem d_Mod_put_14 : decode b_Mod_put 14 = .ok (.invokevirtual 142, 3) := by decide +kernel
theorem d_Mod_put_17 : decode b_Mod_put 17 = .ok (.ifCond .eq 27, 3) := by decide +kernel
theorem d_Mod_put_20 : decode b_Mod_put 20 = .ok (.iload_n 2, 1) := by decide +kernel
theorem d_Mod_put_21 : decode b_Mod_put 21 = .ok (.invokestatic 108, 3) := by decide +kernel
theorem d_Mod_put_24 : decode b_Mod_put 24 = .ok (.ifCond .eq 20, 3) := by decide +kernel
theorem d_Mod_put_27 : decode b_Mod_put 27 = .ok (.iload_n 3, 1) := by decide +kernel
theorem d_Mod_put_28 : decode b_Mod_put 28 = .ok (.ifCond .eq 18, 3) := by decide +kernel
theorem d_Mod_put_31 : decode b_Mod_put 31 = .ok (.aload_n 0, 1) := by decide +kernel
theorem d_Mod_put_32 : decode b_Mod_put 32 = .ok (.aload_n 0, 1) := by decide +kernel
theorem d_Mod_put_33 : decode b_Mod_put 33 = .ok (.getfield 38, 3) := by decide +kernel
theorem d_Mod_put_36 : decode b_Mod_put 36 = .ok (.iload_n 1, 1) := by decide +kernel
theorem d_Mod_put_37 : decode b_Mod_put 37 = .ok (.iaload, 1) := by decide +kernel
theorem d_Mod_put_38 : decode b_Mod_put 38 = .ok (.invokevirtual 100, 3) := by decide +kernel
theorem d_Mod_put_41 : decode b_Mod_put 41 = .ok (.ifCond .ne 5, 3) := by decide +kernel
theorem d_Mod_put_44 : decode b_Mod_put 44 = .ok (.iconst 0, 1) := by decide +kernel
theorem d_Mod_put_45 : decode b_Mod_put 45 = .ok (.ireturn, 1) := by decide +kernel
theorem d_Mod_put_46 : decode b_Mod_put 46 = .ok (.aload_n 0, 1) := by decide +kernel
theorem d_Mod_put_47 : decode b_Mod_put 47 = .ok (.iload_n 1, 1) := by decide +kernel
theorem d_Mod_put_48 : decode b_Mod_put 48 = .ok (.invokevirtual 119, 3) := by decide +kernel
theorem d_Mod_put_51 : decode b_Mod_put 51 = .ok (.istore 4, 2) := by decide +kernel
theorem d_Mod_put_53 : decode b_Mod_put 53 = .ok (.aload_n 0, 1) := by decide +kernel
theorem d_Mod_put_54 : decode b_Mod_put 54 = .ok (.getfield 38, 3) := by decide +kernel
theorem d_Mod_put_57 : decode b_Mod_put 57 = .ok (.iload_n 1, 1) := by decide +kernel
theorem d_Mod_put_58 : decode b_Mod_put 58 = .ok (.iaload, 1) := by decide +kernel
theorem d_Mod_put_59 : decode b_Mod_put 59 = .ok (.istore 5, 2) := by decide +kernel
theorem d_Mod_put_61 : decode b_Mod_put 61 = .ok (.iconst 0, 1) := by decide +kernel
theorem d_Mod_put_62 : decode b_Mod_put 62 = .ok (.istore 6, 2) := by decide +kernel
theorem d_Mod_put_64 : decode b_Mod_put 64 = .ok (.iload 6, 2) := by decide +kernel
theorem d_Mod_put_66 : decode b_Mod_put 66 = .ok (.iload 5, 2) := by decide +kernel
theorem d_Mod_put_68 : decode b_Mod_put 68 = .ok (.if_icmp .ge 25, 3) := by decide +kernel
theorem d_Mod_put_71 : decode b_Mod_put 71 = .ok (.aload_n 0, 1) := by decide +kernel
theorem d_Mod_put_72 : decode b_Mod_put 72 = .ok (.iload 4, 2) := by decide +kernel
theorem d_Mod_put_74 : decode b_Mod_put 74 = .ok (.iload 6, 2) := by decide +kernel
theorem d_Mod_put_76 : decode b_Mod_put 76 = .ok (.iadd, 1) := by decide +kernel
theorem d_Mod_put_77 : decode b_Mod_put 77 = .ok (.aload_n 0, 1) := by decide +kernel
theorem d_Mod_put_78 : decode b_Mod_put 78 = .ok (.getfield 90, 3) := by decide +kernel
theorem d_Mod_put_81 : decode b_Mod_put 81 = .ok (.iload 6, 2) := by decide +kernel
theorem d_Mod_put_83 : decode b_Mod_put 83 = .ok (.iadd, 1) := by decide +kernel
theorem d_Mod_put_84 : decode b_Mod_put 84 = .ok (.invokevirtual 123, 3) := by decide +kernel
theorem d_Mod_put_87 : decode b_Mod_put 87 = .ok (.iinc 6 1, 3) := by decide +kernel
theorem d_Mod_put_90 : decode b_Mod_put 90 = .ok (.goto (-26), 3) := by decide +kernel
theorem d_Mod_put_93 : decode b_Mod_put 93 = .ok (.aload_n 0, 1) := by decide +kernel
theorem d_Mod_put_94 : decode b_Mod_put 94 = .ok (.getfield 22, 3) := by decide +kernel
theorem d_Mod_put_97 : decode b_Mod_put 97 = .ok (.aload_n 0, 1) := by decide +kernel
theorem d_Mod_put_98 : decode b_Mod_put 98 = .ok (.getfield 90, 3) := by decide +kernel
theorem d_Mod_put_101 : decode b_Mod_put 101 = .ok (.iload_n 2, 1) := by decide +kernel
theorem d_Mod_put_102 : decode b_Mod_put 102 = .ok (.iastore, 1) := by decide +kernel
theorem d_Mod_put_103 : decode b_Mod_put 103 = .ok (.aload_n 0, 1) := by decide +kernel
theorem d_Mod_put_104 : decode b_Mod_put 104 = .ok (.dup, 1) := by decide +kernel
theorem d_Mod_put_105 : decode b_Mod_put 105 = .ok (.getfield 90, 3) := by decide +kernel
theorem d_Mod_put_108 : decode b_Mod_put 108 = .ok (.iload 5, 2) := by decide +kernel
theorem d_Mod_put_110 : decode b_Mod_put 110 = .ok (.iadd, 1) := by decide +kernel
theorem d_Mod_put_111 : decode b_Mod_put 111 = .ok (.putfield 90, 3) := by decide +kernel
theorem d_Mod_put_114 : decode b_Mod_put 114 = .ok (.iload_n 3, 1) := by decide +kernel
theorem d_Mod_put_115 : decode b_Mod_put 115 = .ok (.ifCond .ne 8, 3) := by decide +kernel
theorem d_Mod_put_118 : decode b_Mod_put 118 = .ok (.aload_n 0, 1) := by decide +kernel
theorem d_Mod_put_119 : decode b_Mod_put 119 = .ok (.iload_n 1, 1) := by decide +kernel
theorem d_Mod_put_120 : decode b_Mod_put 120 = .ok (.invokevirtual 135, 3) := by decide +kernel
theorem d_Mod_put_123 : decode b_Mod_put 123 = .ok (.iconst 1, 1) := by decide +kernel
theorem d_Mod_put_124 : decode b_Mod_put 124 = .ok (.ireturn, 1) := by decide +kernel
theorem d_Mod_write_0 : decode b_Mod_write 0 = .ok (.bipush 8, 2) := by decide +kernel
theorem d_Mod_write_2 : decode b_Mod_write 2 = .ok (.iload_n 2, 1) := by decide +kernel
theorem d_Mod_write_3 : decode b_Mod_write 3 = .ok (.iconst 1, 1) := by decide +kernel
theorem d_Mod_write_4 : decode b_Mod_write 4 = .ok (.isub, 1) := by decide +kernel
theorem d_Mod_write_5 : decode b_Mod_write 5 = .ok (.imul, 1) := by decide +kernel
theorem d_Mod_write_6 : decode b_Mod_write 6 = .ok (.istore_n 3, 1) := by decide +kernel
theorem d_Mod_write_7 : decode b_Mod_write 7 = .ok (.iload_n 3, 1) := by decide +kernel
theorem d_Mod_write_8 : decode b_Mod_write 8 = .ok (.ifCond .lt 32, 3) := by decide +kernel
theorem d_Mod_write_11 : decode b_Mod_write 11 = .ok (.aload_n 0, 1) := by decide +kernel
theorem d_Mod_write_12 : decode b_Mod_write 12 = .ok (.getfield 54, 3) := by decide +kernel
theorem d_Mod_write_15 : decode b_Mod_write 15 = .ok (.aload_n 0, 1) := by decide +kernel
theorem d_Mod_write_16 : decode b_Mod_write 16 = .ok (.getfield 145, 3) := by decide +kernel
theorem d_Mod_write_19 : decode b_Mod_write 19 = .ok (.iload_n 1, 1) := by decide +kernel
theorem d_Mod_write_20 : decode b_Mod_write 20 = .ok (.iload_n 3, 1) := by decide +kernel
theorem d_Mod_write_21 : decode b_Mod_write 21 = .ok (.ishr, 1) := by decide +kernel
theorem d_Mod_write_22 : decode b_Mod_write 22 = .ok (.i2b, 1) := by decide +kernel
theorem d_Mod_write_23 : decode b_Mod_write 23 = .ok (.bastore, 1) := by decide +kernel
theorem d_Mod_write_24 : decode b_Mod_write 24 = .ok (.aload_n 0, 1) := by decide +kernel
theorem d_Mod_write_25 : decode b_Mod_write 25 = .ok (.dup, 1) := by decide +kernel
theorem d_Mod_write_26 : decode b_Mod_write 26 = .ok (.getfield 145, 3) := by decide +kernel
theorem d_Mod_write_29 : decode b_Mod_write 29 = .ok (.iconst 1, 1) := by decide +kernel
theorem d_Mod_write_30 : decode b_Mod_write 30 = .ok (.iadd, 1) := by decide +kernel
theorem d_Mod_write_31 : decode b_Mod_write 31 = .ok (.putfield 145, 3) := by decide +kernel
theorem d_Mod_write_34 : decode b_Mod_write 34 = .ok (.iinc 3 (-8), 3) := by decide +kernel
theorem d_Mod_write_37 : decode b_Mod_write 37 = .ok (.goto (-30), 3) := by decide +kernel
theorem d_Mod_write_40 : decode b_Mod_write 40 = .ok (.return_, 1) := by decide +kernel
theorem d_Mod_writeNumbers_0 : decode b_Mod_writeNumbers 0 = .ok (.aload_n 0, 1) := by decide +kernel
theorem d_Mod_writeNumbers_1 : decode b_Mod_writeNumbers 1 = .ok (.ldc 148, 2) := by decide +kernel
theorem d_Mod_writeNumbers_3 : decode b_Mod_writeNumbers 3 = .ok (.iconst 4, 1) := by decide +kernel
theorem d_Mod_writeNumbers_4 : decode b_Mod_writeNumbers 4 = .ok (.invokevirtual 149, 3) := by decide +kernel
theorem d_Mod_writeNumbers_7 : decode b_Mod_writeNumbers 7 = .ok (.aload_n 0, 1) := by decide +kernel
theorem d_Mod_writeNumbers_8 : decode b_Mod_writeNumbers 8 = .ok (.ldc 152, 2) := by decide +kernel
theorem d_Mod_writeNumbers_10 : decode b_Mod_writeNumbers 10 = .ok (.iconst 4, 1) := by decide +kernel
theorem d_Mod_writeNumbers_11 : decode b_Mod_writeNumbers 11 = .ok (.invokevirtual 149, 3) := by decide +kernel
theorem d_Mod_writeNumbers_14 : decode b_Mod_writeNumbers 14 = .ok (.aload_n 0, 1) := by decide +kernel
theorem d_Mod_writeNumbers_15 : decode b_Mod_writeNumbers 15 = .ok (.sipush 1000, 3) := by decide +kernel
theorem d_Mod_writeNumbers_18 : decode b_Mod_writeNumbers 18 = .ok (.iconst 4, 1) := by decide +kernel
theorem d_Mod_writeNumbers_19 : decode b_Mod_writeNumbers 19 = .ok (.invokevirtual 149, 3) := by decide +kernel
theorem d_Mod_writeNumbers_22 : decode b_Mod_writeNumbers 22 = .ok (.return_, 1) := by decide +kernel
theorem d_Mod_writeBeginning_0 : decode b_Mod_writeBeginning 0 = .ok (.aload_n 0, 1) := by decide +kernel
theorem d_Mod_writeBeginning_1 : decode b_Mod_writeBeginning 1 = .ok (.getfield 145, 3) := by decide +kernel
theorem d_Mod_writeBeginning_4 : decode b_Mod_writeBeginning 4 = .ok (.ifCond .ne 27, 3) := by decide +kernel
theorem d_Mod_writeBeginning_7 : decode b_Mod_writeBeginning 7 = .ok (.aload_n 0, 1) := by decide +kernel
theorem d_Mod_writeBeginning_8 : decode b_Mod_writeBeginning 8 = .ok (.sipush 247, 3) := by decide +kernel
theorem d_Mod_writeBeginning_11 : decode b_Mod_writeBeginning 11 = .ok (.iconst 1, 1) := by decide +kernel
theorem d_Mod_writeBeginning_12 : decode b_Mod_writeBeginning 12 = .ok (.invokevirtual 149, 3) := by decide +kernel
theorem d_Mod_writeBeginning_15 : decode b_Mod_writeBeginning 15 = .ok (.aload_n 0, 1) := by decide +kernel
theorem d_Mod_writeBeginning_16 : decode b_Mod_writeBeginning 16 = .ok (.iconst 2, 1) := by decide +kernel
theorem d_Mod_writeBeginning_17 : decode b_Mod_writeBeginning 17 = .ok (.iconst 1, 1) := by decide +kernel
theorem d_Mod_writeBeginning_18 : decode b_Mod_writeBeginning 18 = .ok (.invokevirtual 149, 3) := by decide +kernel
theorem d_Mod_writeBeginning_21 : decode b_Mod_writeBeginning 21 = .ok (.aload_n 0, 1) := by decide +kernel
theorem d_Mod_writeBeginning_22 : decode b_Mod_writeBeginning 22 = .ok (.invokevirtual 153, 3) := by decide +kernel
theorem d_Mod_writeBeginning_25 : decode b_Mod_writeBeginning 25 = .ok (.aload_n 0, 1) := by decide +kernel
theorem d_Mod_writeBeginning_26 : decode b_Mod_writeBeginning 26 = .ok (.iconst 0, 1) := by decide +kernel
theorem d_Mod_writeBeginning_27 : decode b_Mod_writeBeginning 27 = .ok (.iconst 1, 1) := by decide +kernel
theorem d_Mod_writeBeginning_28 : decode b_Mod_writeBeginning 28 = .ok (.invokevirtual 149, 3) := by decide +kernel
theorem d_Mod_writeBeginning_31 : decode b_Mod_writeBeginning 31 = .ok (.return_, 1) := by decide +kernel
theorem d_Mod_writeFont_0 : decode b_Mod_writeFont 0 = .ok (.aload_n 0, 1) := by decide +kernel
theorem d_Mod_writeFont_1 : decode b_Mod_writeFont 1 = .ok (.sipush 243, 3) := by decide +kernel
theorem d_Mod_writeFont_4 : decode b_Mod_writeFont 4 = .ok (.iconst 1, 1) := by decide +kernel
theorem d_Mod_writeFont_5 : decode b_Mod_writeFont 5 = .ok (.invokevirtual 149, 3) := by decide +kernel
theorem d_Mod_writeFont_8 : decode b_Mod_writeFont 8 = .ok (.aload_n 0, 1) := by decide +kernel
theorem d_Mod_writeFont_9 : decode b_Mod_writeFont 9 = .ok (.iload_n 1, 1) := by decide +kernel
theorem d_Mod_writeFont_10 : decode b_Mod_writeFont 10 = .ok (.iconst 1, 1) := by decide +kernel
theorem d_Mod_writeFont_11 : decode b_Mod_writeFont 11 = .ok (.invokevirtual 149, 3) := by decide +kernel
theorem d_Mod_writeFont_14 : decode b_Mod_writeFont 14 = .ok (.aload_n 0, 1) := by decide +kernel
theorem d_Mod_writeFont_15 : decode b_Mod_writeFont 15 = .ok (.iconst 0, 1) := by decide +kernel
theorem d_Mod_writeFont_16 : decode b_Mod_writeFont 16 = .ok (.iconst 4, 1) := by decide +kernel
theorem d_Mod_writeFont_17 : decode b_Mod_writeFont 17 = .ok (.invokevirtual 149, 3) := by decide +kernel
theorem d_Mod_writeFont_20 : decode b_Mod_writeFont 20 = .ok (.aload_n 0, 1) := by decide +kernel
theorem d_Mod_writeFont_21 : decode b_Mod_writeFont 21 = .ok (.aload_n 0, 1) := by decide +kernel
theorem d_Mod_writeFont_22 : decode b_Mod_writeFont 22 = .ok (.getfield 41, 3) := by decide +kernel
theorem d_Mod_writeFont_25 : decode b_Mod_writeFont 25 = .ok (.iload_n 1, 1) := by decide +kernel
theorem d_Mod_writeFont_26 : decode b_Mod_writeFont 26 = .ok (.iaload, 1) := by decide +kernel
theorem d_Mod_writeFont_27 : decode b_Mod_writeFont 27 = .ok (.iconst 4, 1) := by decide +kernel
theorem d_Mod_writeFont_28 : decode b_Mod_writeFont 28 = .ok (.invokevirtual 149, 3) := by decide +kernel
theorem d_Mod_writeFont_31 : decode b_Mod_writeFont 31 = .ok (.aload_n 0, 1) := by decide +kernel
theorem d_Mod_writeFont_32 : decode b_Mod_writeFont 32 = .ok (.aload_n 0, 1) := by decide +kernel
theorem d_Mod_writeFont_33 : decode b_Mod_writeFont 33 = .ok (.getfield 44, 3) := by decide +kernel
theorem d_Mod_writeFont_36 : decode b_Mod_writeFont 36 = .ok (.iload_n 1, 1) := by decide +kernel
theorem d_Mod_writeFont_37 : decode b_Mod_writeFont 37 = .ok (.iaload, 1) := by decide +kernel
theorem d_Mod_writeFont_38 : decode b_Mod_writeFont 38 = .ok (.iconst 4, 1) := by decide +kernel
theorem d_Mod_writeFont_39 : decode b_Mod_writeFont 39 = .ok (.invokevirtual 149, 3) := by decide +kernel
theorem d_Mod_writeFont_42 : decode b_Mod_writeFont 42 = .ok (.aload_n 0, 1) := by decide +kernel
theorem d_Mod_writeFont_43 : decode b_Mod_writeFont 43 = .ok (.iconst 0, 1) := by decide +kernel
theorem d_Mod_writeFont_44 : decode b_Mod_writeFont 44 = .ok (.iconst 1, 1) := by decide +kernel
theorem d_Mod_writeFont_45 : decode b_Mod_writeFont 45 = .ok (.invokevirtual 149, 3) := by decide +kernel
theorem d_Mod_writeFont_48 : decode b_Mod_writeFont 48 = .ok (.aload_n 0, 1) := by decide +kernel
theorem d_Mod_writeFont_49 : decode b_Mod_writeFont 49 = .ok (.iconst 1, 1) := by decide +kernel
theorem d_Mod_writeFont_50 : decode b_Mod_writeFont 50 = .ok (.iconst 1, 1) := by decide +kernel
theorem d_Mod_writeFont_51 : decode b_Mod_writeFont 51 = .ok (.invokevirtual 149, 3) := by decide +kernel
theorem d_Mod_writeFont_54 : decode b_Mod_writeFont 54 = .ok (.aload_n 0, 1) := by decide +kernel
theorem d_Mod_writeFont_55 : decode b_Mod_writeFont 55 = .ok (.bipush 65, 2) := by decide +kernel
theorem d_Mod_writeFont_57 : decode b_Mod_writeFont 57 = .ok (.iload_n 1, 1) := by decide +kernel
theorem d_Mod_writeFont_58 : decode b_Mod_writeFont 58 = .ok (.bipush 26, 2) := by decide +kernel
theorem d_Mod_writeFont_60 : decode b_Mod_writeFont 60 = .ok (.irem, 1) := by decide +kernel
theorem d_Mod_writeFont_61 : decode b_Mod_writeFont 61 = .ok (.iadd, 1) := by decide +kernel
theorem d_Mod_writeFont_62 : decode b_Mod_writeFont 62 = .ok (.iconst 1, 1) := by decide +kernel
theorem d_Mod_writeFont_63 : decode b_Mod_writeFont 63 = .ok (.invokevirtual 149, 3) := by decide +kernel
theorem d_Mod_writeFont_66 : decode b_Mod_writeFont 66 = .ok (.return_, 1) := by decide +kernel
theorem d_Mod_sized_0 : decode b_Mod_sized 0 = .ok (.aload_n 0, 1) := by decide +kernel
theorem d_Mod_sized_1 : decode b_Mod_sized 1 = .ok (.aload_n 0, 1) := by decide +kernel
theorem d_Mod_sized_2 : decode b_Mod_sized 2 = .ok (.getfield 156, 3) := by decide +kernel
theorem d_Mod_sized_5 : decode b_Mod_sized 5 = .ok (.ifCond .eq 14, 3) := by decide +kernel
theorem d_Mod_sized_8 : decode b_Mod_sized 8 = .ok (.lload_n 1, 1) := by decide +kernel
theorem d_Mod_sized_9 : decode b_Mod_sized 9 = .ok (.invokestatic 127, 3) := by decide +kernel
theorem d_Mod_sized_12 : decode b_Mod_sized 12 = .ok (.ifCond .eq 7, 3) := by decide +kernel
theorem d_Mod_sized_15 : decode b_Mod_sized 15 = .ok (.iconst 1, 1) := by decide +kernel
theorem d_Mod_sized_16 : decode b_Mod_sized 16 = .ok (.goto 4, 3) := by decide +kernel
theorem d_Mod_sized_19 : decode b_Mod_sized 19 = .ok (.iconst 0, 1) := by decide +kernel
theorem d_Mod_sized_20 : decode b_Mod_sized 20 = .ok (.putfield 156, 3) := by decide +kernel
theorem d_Mod_sized_23 : decode b_Mod_sized 23 = .ok (.return_, 1) := by decide +kernel
theorem d_Mod_enter_0 : decode b_Mod_enter 0 = .ok (.aload_n 0, 1) := by decide +kernel
theorem d_Mod_enter_1 : decode b_Mod_enter 1 = .ok (.getfield 68, 3) := by decide +kernel
theorem d_Mod_enter_4 : decode b_Mod_enter 4 = .ok (.aload_n 0, 1) := by decide +kernel
theorem d_Mod_enter_5 : decode b_Mod_enter 5 = .ok (.getfield 160, 3) := by decide +kernel
theorem d_Mod_enter_8 : decode b_Mod_enter 8 = .ok (.iload_n 1, 1) := by decide +kernel
theorem d_Mod_enter_9 : decode b_Mod_enter 9 = .ok (.aload_n 0, 1) := by decide +kernel
theorem d_Mod_enter_10 : decode b_Mod_enter 10 = .ok (.getfield 28, 3) := by decide +kernel
theorem d_Mod_enter_13 : decode b_Mod_enter 13 = .ok (.iload_n 1, 1) := by decide +kernel
theorem d_Mod_enter_14 : decode b_Mod_enter 14 = .ok (.iaload, 1) := by decide +kernel
theorem d_Mod_enter_15 : decode b_Mod_enter 15 = .ok (.iadd, 1) := by decide +kernel
theorem d_Mod_enter_16 : decode b_Mod_enter 16 = .ok (.iastore, 1) := by decide +kernel
theorem d_Mod_enter_17 : decode b_Mod_enter 17 = .ok (.aload_n 0, 1) := by decide +kernel
theorem d_Mod_enter_18 : decode b_Mod_enter 18 = .ok (.getfield 75, 3) := by decide +kernel
theorem d_Mod_enter_21 : decode b_Mod_enter 21 = .ok (.bipush 8, 2) := by decide +kernel
theorem d_Mod_enter_23 : decode b_Mod_enter 23 = .ok (.aload_n 0, 1) := by decide +kernel
theorem d_Mod_enter_24 : decode b_Mod_enter 24 = .ok (.getfield 160, 3) := by decide +kernel
theorem d_Mod_enter_27 : decode b_Mod_enter 27 = .ok (.imul, 1) := by decide +kernel
theorem d_Mod_enter_28 : decode b_Mod_enter 28 = .ok (.iload_n 1, 1) := by decide +kernel
theorem d_Mod_enter_29 : decode b_Mod_enter 29 = .ok (.iastore, 1) := by decide +kernel
theorem d_Mod_enter_30 : decode b_Mod_enter 30 = .ok (.aload_n 0, 1) := by decide +kernel
theorem d_Mod_enter_31 : decode b_Mod_enter 31 = .ok (.getfield 71, 3) := by decide +kernel
theorem d_Mod_enter_34 : decode b_Mod_enter 34 = .ok (.aload_n 0, 1) := by decide +kernel
theorem d_Mod_enter_35 : decode b_Mod_enter 35 = .ok (.getfield 160, 3) := by decide +kernel
theorem d_Mod_enter_38 : decode b_Mod_enter 38 = .ok (.aload_n 0, 1) := by decide +kernel
theorem d_Mod_enter_39 : decode b_Mod_enter 39 = .ok (.getfield 7, 3) := by decide +kernel
theorem d_Mod_enter_42 : decode b_Mod_enter 42 = .ok (.iload_n 1, 1) := by decide +kernel
theorem d_Mod_enter_43 : decode b_Mod_enter 43 = .ok (.iaload, 1) := by decide +kernel
theorem d_Mod_enter_44 : decode b_Mod_enter 44 = .ok (.iconst 4, 1) := by decide +kernel
theorem d_Mod_enter_45 : decode b_Mod_enter 45 = .ok (.if_icmp .ne 15, 3) := by decide +kernel
theorem d_Mod_enter_48 : decode b_Mod_enter 48 = .ok (.aload_n 0, 1) := by decide +kernel
theorem d_Mod_enter_49 : decode b_Mod_enter 49 = .ok (.getfield 62, 3) := by decide +kernel
theorem d_Mod_enter_52 : decode b_Mod_enter 52 = .ok (.iload_n 1, 1) := by decide +kernel
theorem d_Mod_enter_53 : decode b_Mod_enter 53 = .ok (.iload_n 2, 1) := by decide +kernel
theorem d_Mod_enter_54 : decode b_Mod_enter 54 = .ok (.isub, 1) := by decide +kernel
theorem d_Mod_enter_55 : decode b_Mod_enter 55 = .ok (.iaload, 1) := by decide +kernel
theorem d_Mod_enter_56 : decode b_Mod_enter 56 = .ok (.i2l, 1) := by decide +kernel
theorem d_Mod_enter_57 : decode b_Mod_enter 57 = .ok (.goto 20, 3) := by decide +kernel
theorem d_Mod_enter_60 : decode b_Mod_enter 60 = .ok (.aload_n 0, 1) := by decide +kernel
theorem d_Mod_enter_61 : decode b_Mod_enter 61 = .ok (.getfield 65, 3) := by decide +kernel
theorem d_Mod_enter_64 : decode b_Mod_enter 64 = .ok (.iload_n 1, 1) := by decide +kernel
theorem d_Mod_enter_65 : decode b_Mod_enter 65 = .ok (.iload_n 2, 1) := by decide +kernel
theorem d_Mod_enter_66 : decode b_Mod_enter 66 = .ok (.isub, 1) := by decide +kernel
theorem d_Mod_enter_67 : decode b_Mod_enter 67 = .ok (.iaload, 1) := by decide +kernel
theorem d_Mod_enter_68 : decode b_Mod_enter 68 = .ok (.i2l, 1) := by decide +kernel
theorem d_Mod_enter_69 : decode b_Mod_enter 69 = .ok (.aload_n 0, 1) := by decide +kernel
theorem d_Mod_enter_70 : decode b_Mod_enter 70 = .ok (.getfield 16, 3) := by decide +kernel
theorem d_Mod_enter_73 : decode b_Mod_enter 73 = .ok (.iload_n 1, 1) := by decide +kernel
theorem d_Mod_enter_74 : decode b_Mod_enter 74 = .ok (.iaload, 1) := by decide +kernel
theorem d_Mod_enter_75 : decode b_Mod_enter 75 = .ok (.i2l, 1) := by decide +kernel
theorem d_Mod_enter_76 : decode b_Mod_enter 76 = .ok (.lsub, 1) := by decide +kernel
theorem d_Mod_enter_77 : decode b_Mod_enter 77 = .ok (.lastore, 1) := by decide +kernel
theorem d_Mod_enter_78 : decode b_Mod_enter 78 = .ok (.aload_n 0, 1) := by decide +kernel
theorem d_Mod_enter_79 : decode b_Mod_enter 79 = .ok (.aload_n 0, 1) := by decide +kernel
theorem d_Mod_enter_80 : decode b_Mod_enter 80 = .ok (.getfield 71, 3) := by decide +kernel
theorem d_Mod_enter_83 : decode b_Mod_enter 83 = .ok (.aload_n 0, 1) := by decide +kernel
theorem d_Mod_enter_84 : decode b_Mod_enter 84 = .ok (.getfield 160, 3) := by decide +kernel
theorem d_Mod_enter_87 : decode b_Mod_enter 87 = .ok (.laload, 1) := by decide +kernel
theorem d_Mod_enter_88 : decode b_Mod_enter 88 = .ok (.invokevirtual 163, 3) := by decide +kernel
theorem d_Mod_enter_91 : decode b_Mod_enter 91 = .ok (.aload_n 0, 1) := by decide +kernel
theorem d_Mod_enter_92 : decode b_Mod_enter 92 = .ok (.dup, 1) := by decide +kernel
theorem d_Mod_enter_93 : decode b_Mod_enter 93 = .ok (.getfield 160, 3) := by decide +kernel
theorem d_Mod_enter_96 : decode b_Mod_enter 96 = .ok (.iconst 1, 1) := by decide +kernel
theorem d_Mod_enter_97 : decode b_Mod_enter 97 = .ok (.iadd, 1) := by decide +kernel
theorem d_Mod_enter_98 : decode b_Mod_enter 98 = .ok (.putfield 160, 3) := by decide +kernel
theorem d_Mod_enter_101 : decode b_Mod_enter 101 = .ok (.return_, 1) := by decide +kernel
theorem d_Mod_placeAll_0 : decode b_Mod_placeAll 0 = .ok (.aload_n 0, 1) := by decide +kernel
theorem d_Mod_placeAll_1 : decode b_Mod_placeAll 1 = .ok (.getfield 62, 3) := by decide +kernel
theorem d_Mod_placeAll_4 : decode b_Mod_placeAll 4 = .ok (.iconst 0, 1) := by decide +kernel
theorem d_Mod_placeAll_5 : decode b_Mod_placeAll 5 = .ok (.iconst 0, 1) := by decide +kernel
theorem d_Mod_placeAll_6 : decode b_Mod_placeAll 6 = .ok (.iastore, 1) := by decide +kernel
theorem d_Mod_placeAll_7 : decode b_Mod_placeAll 7 = .ok (.aload_n 0, 1) := by decide +kernel
theorem d_Mod_placeAll_8 : decode b_Mod_placeAll 8 = .ok (.getfield 65, 3) := by decide +kernel
theorem d_Mod_placeAll_11 : decode b_Mod_placeAll 11 = .ok (.iconst 0, 1) := by decide +kernel
theorem d_Mod_placeAll_12 : decode b_Mod_placeAll 12 = .ok (.aload_n 0, 1) := by decide +kernel
theorem d_Mod_placeAll_13 : decode b_Mod_placeAll 13 = .ok (.getfield 16, 3) := by decide +kernel
theorem d_Mod_placeAll_16 : decode b_Mod_placeAll 16 = .ok (.iload_n 1, 1) := by decide +kernel
theorem d_Mod_placeAll_17 : decode b_Mod_placeAll 17 = .ok (.iaload, 1) := by decide +kernel
theorem d_Mod_placeAll_18 : decode b_Mod_placeAll 18 = .ok (.iastore, 1) := by decide +kernel
theorem d_Mod_placeAll_19 : decode b_Mod_placeAll 19 = .ok (.aload_n 0, 1) := by decide +kernel
theorem d_Mod_placeAll_20 : decode b_Mod_placeAll 20 = .ok (.iconst 0, 1) := by decide +kernel
theorem d_Mod_placeAll_21 : decode b_Mod_placeAll 21 = .ok (.putfield 160, 3) := by decide +kernel
theorem d_Mod_placeAll_24 : decode b_Mod_placeAll 24 = .ok (.aload_n 0, 1) := by decide +kernel
theorem d_Mod_placeAll_25 : decode b_Mod_placeAll 25 = .ok (.iload_n 1, 1) := by decide +kernel
theorem d_Mod_placeAll_26 : decode b_Mod_placeAll 26 = .ok (.iload_n 1, 1) := by decide +kernel
theorem d_Mod_placeAll_27 : decode b_Mod_placeAll 27 = .ok (.invokevirtual 167, 3) := by decide +kernel
theorem d_Mod_placeAll_30 : decode b_Mod_placeAll 30 = .ok (.iload_n 1, 1) := by decide +kernel
end
section
theorem d_Mod_placeAll_31 : decode b_Mod_placeAll 31 = .ok (.iconst 1, 1) := by decide +kernel
theorem d_Mod_placeAll_32 : decode b_Mod_placeAll 32 = .ok (.iadd, 1) := by decide +kernel
theorem d_Mod_placeAll_33 : decode b_Mod_placeAll 33 = .ok (.istore_n 3, 1) := by decide +kernel
theorem d_Mod_placeAll_34 : decode b_Mod_placeAll 34 = .ok (.iload_n 3, 1) := by decide +kernel
theorem d_Mod_placeAll_35 : decode b_Mod_placeAll 35 = .ok (.iload_n 1, 1) := by decide +kernel
theorem d_Mod_placeAll_36 : decode b_Mod_placeAll 36 = .ok (.iload_n 2, 1) := by decide +kernel
theorem d_Mod_placeAll_37 : decode b_Mod_placeAll 37 = .ok (.iadd, 1) := by decide +kernel
theorem d_Mod_placeAll_38 : decode b_Mod_placeAll 38 = .ok (.if_icmp .ge 459, 3) := by decide +kernel
theorem d_Mod_placeAll_41 : decode b_Mod_placeAll 41 = .ok (.aload_n 0, 1) := by decide +kernel
theorem d_Mod_placeAll_42 : decode b_Mod_placeAll 42 = .ok (.getfield 156, 3) := by decide +kernel
theorem d_Mod_placeAll_45 : decode b_Mod_placeAll 45 = .ok (.ifCond .eq 452, 3) := by decide +kernel
theorem d_Mod_placeAll_48 : decode b_Mod_placeAll 48 = .ok (.aload_n 0, 1) := by decide +kernel
theorem d_Mod_placeAll_49 : decode b_Mod_placeAll 49 = .ok (.getfield 68, 3) := by decide +kernel
theorem d_Mod_placeAll_52 : decode b_Mod_placeAll 52 = .ok (.aload_n 0, 1) := by decide +kernel
theorem d_Mod_placeAll_53 : decode b_Mod_placeAll 53 = .ok (.getfield 160, 3) := by decide +kernel
theorem d_Mod_placeAll_56 : decode b_Mod_placeAll 56 = .ok (.iconst 1, 1) := by decide +kernel
theorem d_Mod_placeAll_57 : decode b_Mod_placeAll 57 = .ok (.isub, 1) := by decide +kernel
theorem d_Mod_placeAll_58 : decode b_Mod_placeAll 58 = .ok (.iaload, 1) := by decide +kernel
theorem d_Mod_placeAll_59 : decode b_Mod_placeAll 59 = .ok (.iload_n 3, 1) := by decide +kernel
theorem d_Mod_placeAll_60 : decode b_Mod_placeAll 60 = .ok (.if_icmp .gt 16, 3) := by decide +kernel
theorem d_Mod_placeAll_63 : decode b_Mod_placeAll 63 = .ok (.aload_n 0, 1) := by decide +kernel
theorem d_Mod_placeAll_64 : decode b_Mod_placeAll 64 = .ok (.dup, 1) := by decide +kernel
theorem d_Mod_placeAll_65 : decode b_Mod_placeAll 65 = .ok (.getfield 160, 3) := by decide +kernel
theorem d_Mod_placeAll_68 : decode b_Mod_placeAll 68 = .ok (.iconst 1, 1) := by decide +kernel
theorem d_Mod_placeAll_69 : decode b_Mod_placeAll 69 = .ok (.isub, 1) := by decide +kernel
theorem d_Mod_placeAll_70 : decode b_Mod_placeAll 70 = .ok (.putfield 160, 3) := by decide +kernel
theorem d_Mod_placeAll_73 : decode b_Mod_placeAll 73 = .ok (.goto (-25), 3) := by decide +kernel
theorem d_Mod_placeAll_76 : decode b_Mod_placeAll 76 = .ok (.aload_n 0, 1) := by decide +kernel
theorem d_Mod_placeAll_77 : decode b_Mod_placeAll 77 = .ok (.getfield 75, 3) := by decide +kernel
theorem d_Mod_placeAll_80 : decode b_Mod_placeAll 80 = .ok (.bipush 8, 2) := by decide +kernel
theorem d_Mod_placeAll_82 : decode b_Mod_placeAll 82 = .ok (.aload_n 0, 1) := by decide +kernel
theorem d_Mod_placeAll_83 : decode b_Mod_placeAll 83 = .ok (.getfield 160, 3) := by decide +kernel
theorem d_Mod_placeAll_86 : decode b_Mod_placeAll 86 = .ok (.imul, 1) := by decide +kernel
theorem d_Mod_placeAll_87 : decode b_Mod_placeAll 87 = .ok (.bipush 8, 2) := by decide +kernel
theorem d_Mod_placeAll_89 : decode b_Mod_placeAll 89 = .ok (.isub, 1) := by decide +kernel
theorem d_Mod_placeAll_90 : decode b_Mod_placeAll 90 = .ok (.iaload, 1) := by decide +kernel
theorem d_Mod_placeAll_91 : decode b_Mod_placeAll 91 = .ok (.istore 4, 2) := by decide +kernel
theorem d_Mod_placeAll_93 : decode b_Mod_placeAll 93 = .ok (.aload_n 0, 1) := by decide +kernel
theorem d_Mod_placeAll_94 : decode b_Mod_placeAll 94 = .ok (.getfield 7, 3) := by decide +kernel
theorem d_Mod_placeAll_97 : decode b_Mod_placeAll 97 = .ok (.iload 4, 2) := by decide +kernel
theorem d_Mod_placeAll_99 : decode b_Mod_placeAll 99 = .ok (.iaload, 1) := by decide +kernel
theorem d_Mod_placeAll_100 : decode b_Mod_placeAll 100 = .ok (.iconst 4, 1) := by decide +kernel
theorem d_Mod_placeAll_101 : decode b_Mod_placeAll 101 = .ok (.if_icmp .ne 7, 3) := by decide +kernel
theorem d_Mod_placeAll_104 : decode b_Mod_placeAll 104 = .ok (.iconst 1, 1) := by decide +kernel
theorem d_Mod_placeAll_105 : decode b_Mod_placeAll 105 = .ok (.goto 4, 3) := by decide +kernel
theorem d_Mod_placeAll_108 : decode b_Mod_placeAll 108 = .ok (.iconst 0, 1) := by decide +kernel
theorem d_Mod_placeAll_109 : decode b_Mod_placeAll 109 = .ok (.istore 5, 2) := by decide +kernel
theorem d_Mod_placeAll_111 : decode b_Mod_placeAll 111 = .ok (.iload 5, 2) := by decide +kernel
theorem d_Mod_placeAll_113 : decode b_Mod_placeAll 113 = .ok (.ifCond .eq 17, 3) := by decide +kernel
theorem d_Mod_placeAll_116 : decode b_Mod_placeAll 116 = .ok (.aload_n 0, 1) := by decide +kernel
theorem d_Mod_placeAll_117 : decode b_Mod_placeAll 117 = .ok (.getfield 71, 3) := by decide +kernel
theorem d_Mod_placeAll_120 : decode b_Mod_placeAll 120 = .ok (.aload_n 0, 1) := by decide +kernel
theorem d_Mod_placeAll_121 : decode b_Mod_placeAll 121 = .ok (.getfield 160, 3) := by decide +kernel
theorem d_Mod_placeAll_124 : decode b_Mod_placeAll 124 = .ok (.iconst 1, 1) := by decide +kernel
theorem d_Mod_placeAll_125 : decode b_Mod_placeAll 125 = .ok (.isub, 1) := by decide +kernel
theorem d_Mod_placeAll_126 : decode b_Mod_placeAll 126 = .ok (.laload, 1) := by decide +kernel
theorem d_Mod_placeAll_127 : decode b_Mod_placeAll 127 = .ok (.goto 13, 3) := by decide +kernel
theorem d_Mod_placeAll_130 : decode b_Mod_placeAll 130 = .ok (.aload_n 0, 1) := by decide +kernel
theorem d_Mod_placeAll_131 : decode b_Mod_placeAll 131 = .ok (.getfield 62, 3) := by decide +kernel
theorem d_Mod_placeAll_134 : decode b_Mod_placeAll 134 = .ok (.iload 4, 2) := by decide +kernel
theorem d_Mod_placeAll_136 : decode b_Mod_placeAll 136 = .ok (.iload_n 1, 1) := by decide +kernel
theorem d_Mod_placeAll_137 : decode b_Mod_placeAll 137 = .ok (.isub, 1) := by decide +kernel
theorem d_Mod_placeAll_138 : decode b_Mod_placeAll 138 = .ok (.iaload, 1) := by decide +kernel
theorem d_Mod_placeAll_139 : decode b_Mod_placeAll 139 = .ok (.i2l, 1) := by decide +kernel
theorem d_Mod_placeAll_140 : decode b_Mod_placeAll 140 = .ok (.lstore 6, 2) := by decide +kernel
theorem d_Mod_placeAll_142 : decode b_Mod_placeAll 142 = .ok (.iload 5, 2) := by decide +kernel
theorem d_Mod_placeAll_144 : decode b_Mod_placeAll 144 = .ok (.ifCond .eq 16, 3) := by decide +kernel
theorem d_Mod_placeAll_147 : decode b_Mod_placeAll 147 = .ok (.aload_n 0, 1) := by decide +kernel
theorem d_Mod_placeAll_148 : decode b_Mod_placeAll 148 = .ok (.getfield 65, 3) := by decide +kernel
theorem d_Mod_placeAll_151 : decode b_Mod_placeAll 151 = .ok (.iload 4, 2) := by decide +kernel
theorem d_Mod_placeAll_153 : decode b_Mod_placeAll 153 = .ok (.iload_n 1, 1) := by decide +kernel
theorem d_Mod_placeAll_154 : decode b_Mod_placeAll 154 = .ok (.isub, 1) := by decide +kernel
theorem d_Mod_placeAll_155 : decode b_Mod_placeAll 155 = .ok (.iaload, 1) := by decide +kernel
theorem d_Mod_placeAll_156 : decode b_Mod_placeAll 156 = .ok (.i2l, 1) := by decide +kernel
theorem d_Mod_placeAll_157 : decode b_Mod_placeAll 157 = .ok (.goto 14, 3) := by decide +kernel
theorem d_Mod_placeAll_160 : decode b_Mod_placeAll 160 = .ok (.aload_n 0, 1) := by decide +kernel
theorem d_Mod_placeAll_161 : decode b_Mod_placeAll 161 = .ok (.getfield 71, 3) := by decide +kernel
theorem d_Mod_placeAll_164 : decode b_Mod_placeAll 164 = .ok (.aload_n 0, 1) := by decide +kernel
theorem d_Mod_placeAll_165 : decode b_Mod_placeAll 165 = .ok (.getfield 160, 3) := by decide +kernel
theorem d_Mod_placeAll_168 : decode b_Mod_placeAll 168 = .ok (.iconst 1, 1) := by decide +kernel
theorem d_Mod_placeAll_169 : decode b_Mod_placeAll 169 = .ok (.isub, 1) := by decide +kernel
theorem d_Mod_placeAll_170 : decode b_Mod_placeAll 170 = .ok (.laload, 1) := by decide +kernel
theorem d_Mod_placeAll_171 : decode b_Mod_placeAll 171 = .ok (.lstore 8, 2) := by decide +kernel
theorem d_Mod_placeAll_173 : decode b_Mod_placeAll 173 = .ok (.aload_n 0, 1) := by decide +kernel
theorem d_Mod_placeAll_174 : decode b_Mod_placeAll 174 = .ok (.iload_n 3, 1) := by decide +kernel
theorem d_Mod_placeAll_175 : decode b_Mod_placeAll 175 = .ok (.invokevirtual 116, 3) := by decide +kernel
theorem d_Mod_placeAll_178 : decode b_Mod_placeAll 178 = .ok (.ifCond .eq 13, 3) := by decide +kernel
theorem d_Mod_placeAll_181 : decode b_Mod_placeAll 181 = .ok (.aload_n 0, 1) := by decide +kernel
theorem d_Mod_placeAll_182 : decode b_Mod_placeAll 182 = .ok (.getfield 22, 3) := by decide +kernel
theorem d_Mod_placeAll_185 : decode b_Mod_placeAll 185 = .ok (.iload_n 3, 1) := by decide +kernel
theorem d_Mod_placeAll_186 : decode b_Mod_placeAll 186 = .ok (.iaload, 1) := by decide +kernel
theorem d_Mod_placeAll_187 : decode b_Mod_placeAll 187 = .ok (.i2l, 1) := by decide +kernel
theorem d_Mod_placeAll_188 : decode b_Mod_placeAll 188 = .ok (.goto 4, 3) := by decide +kernel
theorem d_Mod_placeAll_191 : decode b_Mod_placeAll 191 = .ok (.lconst 0, 1) := by decide +kernel
theorem d_Mod_placeAll_192 : decode b_Mod_placeAll 192 = .ok (.lstore 10, 2) := by decide +kernel
theorem d_Mod_placeAll_194 : decode b_Mod_placeAll 194 = .ok (.aload_n 0, 1) := by decide +kernel
theorem d_Mod_placeAll_195 : decode b_Mod_placeAll 195 = .ok (.getfield 16, 3) := by decide +kernel
theorem d_Mod_placeAll_198 : decode b_Mod_placeAll 198 = .ok (.iload_n 3, 1) := by decide +kernel
theorem d_Mod_placeAll_199 : decode b_Mod_placeAll 199 = .ok (.iaload, 1) := by decide +kernel
theorem d_Mod_placeAll_200 : decode b_Mod_placeAll 200 = .ok (.ldc 115, 2) := by decide +kernel
theorem d_Mod_placeAll_202 : decode b_Mod_placeAll 202 = .ok (.if_icmp .ne 14, 3) := by decide +kernel
theorem d_Mod_placeAll_205 : decode b_Mod_placeAll 205 = .ok (.aload_n 0, 1) := by decide +kernel
theorem d_Mod_placeAll_206 : decode b_Mod_placeAll 206 = .ok (.getfield 16, 3) := by decide +kernel
theorem d_Mod_placeAll_209 : decode b_Mod_placeAll 209 = .ok (.iload 4, 2) := by decide +kernel
theorem d_Mod_placeAll_211 : decode b_Mod_placeAll 211 = .ok (.iaload, 1) := by decide +kernel
theorem d_Mod_placeAll_212 : decode b_Mod_placeAll 212 = .ok (.i2l, 1) := by decide +kernel
theorem d_Mod_placeAll_213 : decode b_Mod_placeAll 213 = .ok (.goto 10, 3) := by decide +kernel
theorem d_Mod_placeAll_216 : decode b_Mod_placeAll 216 = .ok (.aload_n 0, 1) := by decide +kernel
theorem d_Mod_placeAll_217 : decode b_Mod_placeAll 217 = .ok (.getfield 16, 3) := by decide +kernel
theorem d_Mod_placeAll_220 : decode b_Mod_placeAll 220 = .ok (.iload_n 3, 1) := by decide +kernel
theorem d_Mod_placeAll_221 : decode b_Mod_placeAll 221 = .ok (.iaload, 1) := by decide +kernel
theorem d_Mod_placeAll_222 : decode b_Mod_placeAll 222 = .ok (.i2l, 1) := by decide +kernel
theorem d_Mod_placeAll_223 : decode b_Mod_placeAll 223 = .ok (.lstore 12, 2) := by decide +kernel
theorem d_Mod_placeAll_225 : decode b_Mod_placeAll 225 = .ok (.aload_n 0, 1) := by decide +kernel
theorem d_Mod_placeAll_226 : decode b_Mod_placeAll 226 = .ok (.getfield 19, 3) := by decide +kernel
theorem d_Mod_placeAll_229 : decode b_Mod_placeAll 229 = .ok (.iload_n 3, 1) := by decide +kernel
theorem d_Mod_placeAll_230 : decode b_Mod_placeAll 230 = .ok (.iaload, 1) := by decide +kernel
theorem d_Mod_placeAll_231 : decode b_Mod_placeAll 231 = .ok (.ldc 115, 2) := by decide +kernel
theorem d_Mod_placeAll_233 : decode b_Mod_placeAll 233 = .ok (.if_icmp .ne 14, 3) := by decide +kernel
theorem d_Mod_placeAll_236 : decode b_Mod_placeAll 236 = .ok (.aload_n 0, 1) := by decide +kernel
theorem d_Mod_placeAll_237 : decode b_Mod_placeAll 237 = .ok (.getfield 19, 3) := by decide +kernel
theorem d_Mod_placeAll_240 : decode b_Mod_placeAll 240 = .ok (.iload 4, 2) := by decide +kernel
theorem d_Mod_placeAll_242 : decode b_Mod_placeAll 242 = .ok (.iaload, 1) := by decide +kernel
theorem d_Mod_placeAll_243 : decode b_Mod_placeAll 243 = .ok (.i2l, 1) := by decide +kernel
theorem d_Mod_placeAll_244 : decode b_Mod_placeAll 244 = .ok (.goto 10, 3) := by decide +kernel
theorem d_Mod_placeAll_247 : decode b_Mod_placeAll 247 = .ok (.aload_n 0, 1) := by decide +kernel
theorem d_Mod_placeAll_248 : decode b_Mod_placeAll 248 = .ok (.getfield 19, 3) := by decide +kernel
theorem d_Mod_placeAll_251 : decode b_Mod_placeAll 251 = .ok (.iload_n 3, 1) := by decide +kernel
theorem d_Mod_placeAll_252 : decode b_Mod_placeAll 252 = .ok (.iaload, 1) := by decide +kernel
theorem d_Mod_placeAll_253 : decode b_Mod_placeAll 253 = .ok (.i2l, 1) := by decide +kernel
theorem d_Mod_placeAll_254 : decode b_Mod_placeAll 254 = .ok (.lstore 14, 2) := by decide +kernel
theorem d_Mod_placeAll_256 : decode b_Mod_placeAll 256 = .ok (.aload_n 0, 1) := by decide +kernel
theorem d_Mod_placeAll_257 : decode b_Mod_placeAll 257 = .ok (.getfield 7, 3) := by decide +kernel
theorem d_Mod_placeAll_260 : decode b_Mod_placeAll 260 = .ok (.iload_n 3, 1) := by decide +kernel
theorem d_Mod_placeAll_261 : decode b_Mod_placeAll 261 = .ok (.iaload, 1) := by decide +kernel
theorem d_Mod_placeAll_262 : decode b_Mod_placeAll 262 = .ok (.iconst 2, 1) := by decide +kernel
theorem d_Mod_placeAll_263 : decode b_Mod_placeAll 263 = .ok (.if_icmp .ne 7, 3) := by decide +kernel
theorem d_Mod_placeAll_266 : decode b_Mod_placeAll 266 = .ok (.iconst 1, 1) := by decide +kernel
theorem d_Mod_placeAll_267 : decode b_Mod_placeAll 267 = .ok (.goto 4, 3) := by decide +kernel
theorem d_Mod_placeAll_270 : decode b_Mod_placeAll 270 = .ok (.iconst 0, 1) := by decide +kernel
theorem d_Mod_placeAll_271 : decode b_Mod_placeAll 271 = .ok (.istore 16, 2) := by decide +kernel
theorem d_Mod_placeAll_273 : decode b_Mod_placeAll 273 = .ok (.aload_n 0, 1) := by decide +kernel
theorem d_Mod_placeAll_274 : decode b_Mod_placeAll 274 = .ok (.getfield 7, 3) := by decide +kernel
theorem d_Mod_placeAll_277 : decode b_Mod_placeAll 277 = .ok (.iload_n 3, 1) := by decide +kernel
theorem d_Mod_placeAll_278 : decode b_Mod_placeAll 278 = .ok (.iaload, 1) := by decide +kernel
theorem d_Mod_placeAll_279 : decode b_Mod_placeAll 279 = .ok (.iconst 3, 1) := by decide +kernel
theorem d_Mod_placeAll_280 : decode b_Mod_placeAll 280 = .ok (.if_icmp .ne 7, 3) := by decide +kernel
theorem d_Mod_placeAll_283 : decode b_Mod_placeAll 283 = .ok (.iconst 1, 1) := by decide +kernel
theorem d_Mod_placeAll_284 : decode b_Mod_placeAll 284 = .ok (.goto 4, 3) := by decide +kernel
theorem d_Mod_placeAll_287 : decode b_Mod_placeAll 287 = .ok (.iconst 0, 1) := by decide +kernel
theorem d_Mod_placeAll_288 : decode b_Mod_placeAll 288 = .ok (.istore 17, 2) := by decide +kernel
theorem d_Mod_placeAll_290 : decode b_Mod_placeAll 290 = .ok (.lload 6, 2) := by decide +kernel
theorem d_Mod_placeAll_292 : decode b_Mod_placeAll 292 = .ok (.iload 5, 2) := by decide +kernel
theorem d_Mod_placeAll_294 : decode b_Mod_placeAll 294 = .ok (.ifCond .eq 7, 3) := by decide +kernel
theorem d_Mod_placeAll_297 : decode b_Mod_placeAll 297 = .ok (.lconst 0, 1) := by decide +kernel
theorem d_Mod_placeAll_298 : decode b_Mod_placeAll 298 = .ok (.goto 5, 3) := by decide +kernel
theorem d_Mod_placeAll_301 : decode b_Mod_placeAll 301 = .ok (.lload 10, 2) := by decide +kernel
theorem d_Mod_placeAll_303 : decode b_Mod_placeAll 303 = .ok (.ladd, 1) := by decide +kernel
theorem d_Mod_placeAll_304 : decode b_Mod_placeAll 304 = .ok (.lstore 6, 2) := by decide +kernel
theorem d_Mod_placeAll_306 : decode b_Mod_placeAll 306 = .ok (.lload 8, 2) := by decide +kernel
theorem d_Mod_placeAll_308 : decode b_Mod_placeAll 308 = .ok (.iload 5, 2) := by decide +kernel
theorem d_Mod_placeAll_310 : decode b_Mod_placeAll 310 = .ok (.ifCond .eq 8, 3) := by decide +kernel
theorem d_Mod_placeAll_313 : decode b_Mod_placeAll 313 = .ok (.lload 10, 2) := by decide +kernel
theorem d_Mod_placeAll_315 : decode b_Mod_placeAll 315 = .ok (.goto 14, 3) := by decide +kernel
theorem d_Mod_placeAll_318 : decode b_Mod_placeAll 318 = .ok (.iload 17, 2) := by decide +kernel
theorem d_Mod_placeAll_320 : decode b_Mod_placeAll 320 = .ok (.ifCond .eq 7, 3) := by decide +kernel
theorem d_Mod_placeAll_323 : decode b_Mod_placeAll 323 = .ok (.lconst 0, 1) := by decide +kernel
theorem d_Mod_placeAll_324 : decode b_Mod_placeAll 324 = .ok (.goto 5, 3) := by decide +kernel
theorem d_Mod_placeAll_327 : decode b_Mod_placeAll 327 = .ok (.lload 12, 2) := by decide +kernel
theorem d_Mod_placeAll_329 : decode b_Mod_placeAll 329 = .ok (.ladd, 1) := by decide +kernel
theorem d_Mod_placeAll_330 : decode b_Mod_placeAll 330 = .ok (.lstore 8, 2) := by decide +kernel
theorem d_Mod_placeAll_332 : decode b_Mod_placeAll 332 = .ok (.lload 8, 2) := by decide +kernel
theorem d_Mod_placeAll_334 : decode b_Mod_placeAll 334 = .ok (.iload 16, 2) := by decide +kernel
theorem d_Mod_placeAll_336 : decode b_Mod_placeAll 336 = .ok (.ifCond .eq 8, 3) := by decide +kernel
theorem d_Mod_placeAll_339 : decode b_Mod_placeAll 339 = .ok (.lload 14, 2) := by decide +kernel
theorem d_Mod_placeAll_341 : decode b_Mod_placeAll 341 = .ok (.goto 4, 3) := by decide +kernel
theorem d_Mod_placeAll_344 : decode b_Mod_placeAll 344 = .ok (.lconst 0, 1) := by decide +kernel
theorem d_Mod_placeAll_345 : decode b_Mod_placeAll 345 = .ok (.ladd, 1) := by decide +kernel
theorem d_Mod_placeAll_346 : decode b_Mod_placeAll 346 = .ok (.lstore 8, 2) := by decide +kernel
theorem d_Mod_placeAll_348 : decode b_Mod_placeAll 348 = .ok (.aload_n 0, 1) := by decide +kernel
theorem d_Mod_placeAll_349 : decode b_Mod_placeAll 349 = .ok (.lload 6, 2) := by decide +kernel
theorem d_Mod_placeAll_351 : decode b_Mod_placeAll 351 = .ok (.invokevirtual 163, 3) := by decide +kernel
theorem d_Mod_placeAll_354 : decode b_Mod_placeAll 354 = .ok (.aload_n 0, 1) := by decide +kernel
theorem d_Mod_placeAll_355 : decode b_Mod_placeAll 355 = .ok (.lload 8, 2) := by decide +kernel
theorem d_Mod_placeAll_357 : decode b_Mod_placeAll 357 = .ok (.invokevirtual 163, 3) := by decide +kernel
theorem d_Mod_placeAll_360 : decode b_Mod_placeAll 360 = .ok (.iload 16, 2) := by decide +kernel
theorem d_Mod_placeAll_362 : decode b_Mod_placeAll 362 = .ok (.ifCond .eq 12, 3) := by decide +kernel
theorem d_Mod_placeAll_365 : decode b_Mod_placeAll 365 = .ok (.aload_n 0, 1) := by decide +kernel
theorem d_Mod_placeAll_366 : decode b_Mod_placeAll 366 = .ok (.lload 12, 2) := by decide +kernel
theorem d_Mod_placeAll_368 : decode b_Mod_placeAll 368 = .ok (.lload 14, 2) := by decide +kernel
theorem d_Mod_placeAll_370 : decode b_Mod_placeAll 370 = .ok (.ladd, 1) := by decide +kernel
theorem d_Mod_placeAll_371 : decode b_Mod_placeAll 371 = .ok (.invokevirtual 163, 3) := by decide +kernel
theorem d_Mod_placeAll_374 : decode b_Mod_placeAll 374 = .ok (.aload_n 0, 1) := by decide +kernel
theorem d_Mod_placeAll_375 : decode b_Mod_placeAll 375 = .ok (.getfield 71, 3) := by decide +kernel
theorem d_Mod_placeAll_378 : decode b_Mod_placeAll 378 = .ok (.aload_n 0, 1) := by decide +kernel
theorem d_Mod_placeAll_379 : decode b_Mod_placeAll 379 = .ok (.getfield 160, 3) := by decide +kernel
theorem d_Mod_placeAll_382 : decode b_Mod_placeAll 382 = .ok (.iconst 1, 1) := by decide +kernel
theorem d_Mod_placeAll_383 : decode b_Mod_placeAll 383 = .ok (.isub, 1) := by decide +kernel
theorem d_Mod_placeAll_384 : decode b_Mod_placeAll 384 = .ok (.dup2, 1) := by decide +kernel
theorem d_Mod_placeAll_385 : decode b_Mod_placeAll 385 = .ok (.laload, 1) := by decide +kernel
theorem d_Mod_placeAll_386 : decode b_Mod_placeAll 386 = .ok (.iload 5, 2) := by decide +kernel
theorem d_Mod_placeAll_388 : decode b_Mod_placeAll 388 = .ok (.ifCond .eq 13, 3) := by decide +kernel
theorem d_Mod_placeAll_391 : decode b_Mod_placeAll 391 = .ok (.aload_n 0, 1) := by decide +kernel
theorem d_Mod_placeAll_392 : decode b_Mod_placeAll 392 = .ok (.getfield 13, 3) := by decide +kernel
theorem d_Mod_placeAll_395 : decode b_Mod_placeAll 395 = .ok (.iload_n 3, 1) := by decide +kernel
theorem d_Mod_placeAll_396 : decode b_Mod_placeAll 396 = .ok (.iaload, 1) := by decide +kernel
theorem d_Mod_placeAll_397 : decode b_Mod_placeAll 397 = .ok (.i2l, 1) := by decide +kernel
theorem d_Mod_placeAll_398 : decode b_Mod_placeAll 398 = .ok (.goto 23, 3) := by decide +kernel
theorem d_Mod_placeAll_401 : decode b_Mod_placeAll 401 = .ok (.iload 17, 2) := by decide +kernel
theorem d_Mod_placeAll_403 : decode b_Mod_placeAll 403 = .ok (.ifCond .eq 13, 3) := by decide +kernel
theorem d_Mod_placeAll_406 : decode b_Mod_placeAll 406 = .ok (.aload_n 0, 1) := by decide +kernel
theorem d_Mod_placeAll_407 : decode b_Mod_placeAll 407 = .ok (.getfield 13, 3) := by decide +kernel
theorem d_Mod_placeAll_410 : decode b_Mod_placeAll 410 = .ok (.iload_n 3, 1) := by decide +kernel
theorem d_Mod_placeAll_411 : decode b_Mod_placeAll 411 = .ok (.iaload, 1) := by decide +kernel
theorem d_Mod_placeAll_412 : decode b_Mod_placeAll 412 = .ok (.i2l, 1) := by decide +kernel
theorem d_Mod_placeAll_413 : decode b_Mod_placeAll 413 = .ok (.goto 8, 3) := by decide +kernel
theorem d_Mod_placeAll_416 : decode b_Mod_placeAll 416 = .ok (.lload 12, 2) := by decide +kernel
theorem d_Mod_placeAll_418 : decode b_Mod_placeAll 418 = .ok (.lload 14, 2) := by decide +kernel
theorem d_Mod_placeAll_420 : decode b_Mod_placeAll 420 = .ok (.ladd, 1) := by decide +kernel
theorem d_Mod_placeAll_421 : decode b_Mod_placeAll 421 = .ok (.ladd, 1) := by decide +kernel
theorem d_Mod_placeAll_422 : decode b_Mod_placeAll 422 = .ok (.lastore, 1) := by decide +kernel
theorem d_Mod_placeAll_423 : decode b_Mod_placeAll 423 = .ok (.aload_n 0, 1) := by decide +kernel
theorem d_Mod_placeAll_424 : decode b_Mod_placeAll 424 = .ok (.aload_n 0, 1) := by decide +kernel
theorem d_Mod_placeAll_425 : decode b_Mod_placeAll 425 = .ok (.getfield 71, 3) := by decide +kernel
theorem d_Mod_placeAll_428 : decode b_Mod_placeAll 428 = .ok (.aload_n 0, 1) := by decide +kernel
theorem d_Mod_placeAll_429 : decode b_Mod_placeAll 429 = .ok (.getfield 160, 3) := by decide +kernel
theorem d_Mod_placeAll_432 : decode b_Mod_placeAll 432 = .ok (.iconst 1, 1) := by decide +kernel
theorem d_Mod_placeAll_433 : decode b_Mod_placeAll 433 = .ok (.isub, 1) := by decide +kernel
theorem d_Mod_placeAll_434 : decode b_Mod_placeAll 434 = .ok (.laload, 1) := by decide +kernel
theorem d_Mod_placeAll_435 : decode b_Mod_placeAll 435 = .ok (.invokevirtual 163, 3) := by decide +kernel
theorem d_Mod_placeAll_438 : decode b_Mod_placeAll 438 = .ok (.aload_n 0, 1) := by decide +kernel
theorem d_Mod_placeAll_439 : decode b_Mod_placeAll 439 = .ok (.getfield 62, 3) := by decide +kernel
theorem d_Mod_placeAll_442 : decode b_Mod_placeAll 442 = .ok (.iload_n 3, 1) := by decide +kernel
theorem d_Mod_placeAll_443 : decode b_Mod_placeAll 443 = .ok (.iload_n 1, 1) := by decide +kernel
theorem d_Mod_placeAll_444 : decode b_Mod_placeAll 444 = .ok (.isub, 1) := by decide +kernel
theorem d_Mod_placeAll_445 : decode b_Mod_placeAll 445 = .ok (.lload 6, 2) := by decide +kernel
theorem d_Mod_placeAll_447 : decode b_Mod_placeAll 447 = .ok (.l2i, 1) := by decide +kernel
theorem d_Mod_placeAll_448 : decode b_Mod_placeAll 448 = .ok (.iastore, 1) := by decide +kernel
theorem d_Mod_placeAll_449 : decode b_Mod_placeAll 449 = .ok (.aload_n 0, 1) := by decide +kernel
theorem d_Mod_placeAll_450 : decode b_Mod_placeAll 450 = .ok (.getfield 65, 3) := by decide +kernel
theorem d_Mod_placeAll_453 : decode b_Mod_placeAll 453 = .ok (.iload_n 3, 1) := by decide +kernel
theorem d_Mod_placeAll_454 : decode b_Mod_placeAll 454 = .ok (.iload_n 1, 1) := by decide +kernel
theorem d_Mod_placeAll_455 : decode b_Mod_placeAll 455 = .ok (.isub, 1) := by decide +kernel
theorem d_Mod_placeAll_456 : decode b_Mod_placeAll 456 = .ok (.lload 8, 2) := by decide +kernel
theorem d_Mod_placeAll_458 : decode b_Mod_placeAll 458 = .ok (.l2i, 1) := by decide +kernel
theorem d_Mod_placeAll_459 : decode b_Mod_placeAll 459 = .ok (.iastore, 1) := by decide +kernel
theorem d_Mod_placeAll_460 : decode b_Mod_placeAll 460 = .ok (.aload_n 0, 1) := by decide +kernel
theorem d_Mod_placeAll_461 : decode b_Mod_placeAll 461 = .ok (.iload_n 3, 1) := by decide +kernel
theorem d_Mod_placeAll_462 : decode b_Mod_placeAll 462 = .ok (.invokevirtual 116, 3) := by decide +kernel
theorem d_Mod_placeAll_465 : decode b_Mod_placeAll 465 = .ok (.ifCond .eq 26, 3) := by decide +kernel
theorem d_Mod_placeAll_468 : decode b_Mod_placeAll 468 = .ok (.aload_n 0, 1) := by decide +kernel
theorem d_Mod_placeAll_469 : decode b_Mod_placeAll 469 = .ok (.getfield 28, 3) := by decide +kernel
theorem d_Mod_placeAll_472 : decode b_Mod_placeAll 472 = .ok (.iload_n 3, 1) := by decide +kernel
theorem d_Mod_placeAll_473 : decode b_Mod_placeAll 473 = .ok (.iaload, 1) := by decide +kernel
theorem d_Mod_placeAll_474 : decode b_Mod_placeAll 474 = .ok (.iconst 1, 1) := by decide +kernel
theorem d_Mod_placeAll_475 : decode b_Mod_placeAll 475 = .ok (.if_icmp .le 16, 3) := by decide +kernel
theorem d_Mod_placeAll_478 : decode b_Mod_placeAll 478 = .ok (.aload_n 0, 1) := by decide +kernel
theorem d_Mod_placeAll_479 : decode b_Mod_placeAll 479 = .ok (.getfield 156, 3) := by decide +kernel
theorem d_Mod_placeAll_482 : decode b_Mod_placeAll 482 = .ok (.ifCond .eq 9, 3) := by decide +kernel
theorem d_Mod_placeAll_485 : decode b_Mod_placeAll 485 = .ok (.aload_n 0, 1) := by decide +kernel
theorem d_Mod_placeAll_486 : decode b_Mod_placeAll 486 = .ok (.iload_n 3, 1) := by decide +kernel
theorem d_Mod_placeAll_487 : decode b_Mod_placeAll 487 = .ok (.iload_n 1, 1) := by decide +kernel
theorem d_Mod_placeAll_488 : decode b_Mod_placeAll 488 = .ok (.invokevirtual 167, 3) := by decide +kernel
theorem d_Mod_placeAll_491 : decode b_Mod_placeAll 491 = .ok (.iinc 3 1, 3) := by decide +kernel
theorem d_Mod_placeAll_494 : decode b_Mod_placeAll 494 = .ok (.goto (-460), 3) := by decide +kernel
theorem d_Mod_placeAll_497 : decode b_Mod_placeAll 497 = .ok (.return_, 1) := by decide +kernel
theorem d_Mod_bytes_0 : decode b_Mod_bytes 0 = .ok (.iload_n 0, 1) := by decide +kernel
theorem d_Mod_bytes_1 : decode b_Mod_bytes 1 = .ok (.bipush (-128), 2) := by decide +kernel
theorem d_Mod_bytes_3 : decode b_Mod_bytes 3 = .ok (.if_icmp .lt 14, 3) := by decide +kernel
theorem d_Mod_bytes_6 : decode b_Mod_bytes 6 = .ok (.iload_n 0, 1) := by decide +kernel
theorem d_Mod_bytes_7 : decode b_Mod_bytes 7 = .ok (.sipush 128, 3) := by decide +kernel
theorem d_Mod_bytes_10 : decode b_Mod_bytes 10 = .ok (.if_icmp .ge 7, 3) := by decide +kernel
theorem d_Mod_bytes_13 : decode b_Mod_bytes 13 = .ok (.iconst 1, 1) := by decide +kernel
theorem d_Mod_bytes_14 : decode b_Mod_bytes 14 = .ok (.goto 37, 3) := by decide +kernel
theorem d_Mod_bytes_17 : decode b_Mod_bytes 17 = .ok (.iload_n 0, 1) := by decide +kernel
theorem d_Mod_bytes_18 : decode b_Mod_bytes 18 = .ok (.sipush (-32768), 3) := by decide +kernel
theorem d_Mod_bytes_21 : decode b_Mod_bytes 21 = .ok (.if_icmp .lt 13, 3) := by decide +kernel
theorem d_Mod_bytes_24 : decode b_Mod_bytes 24 = .ok (.iload_n 0, 1) := by decide +kernel
theorem d_Mod_bytes_25 : decode b_Mod_bytes 25 = .ok (.ldc 170, 2) := by decide +kernel
theorem d_Mod_bytes_27 : decode b_Mod_bytes 27 = .ok (.if_icmp .ge 7, 3) := by decide +kernel
theorem d_Mod_bytes_30 : decode b_Mod_bytes 30 = .ok (.iconst 2, 1) := by decide +kernel
theorem d_Mod_bytes_31 : decode b_Mod_bytes 31 = .ok (.goto 20, 3) := by decide +kernel
theorem d_Mod_bytes_34 : decode b_Mod_bytes 34 = .ok (.iload_n 0, 1) := by decide +kernel
theorem d_Mod_bytes_35 : decode b_Mod_bytes 35 = .ok (.ldc 171, 2) := by decide +kernel
theorem d_Mod_bytes_37 : decode b_Mod_bytes 37 = .ok (.if_icmp .lt 13, 3) := by decide +kernel
theorem d_Mod_bytes_40 : decode b_Mod_bytes 40 = .ok (.iload_n 0, 1) := by decide +kernel
theorem d_Mod_bytes_41 : decode b_Mod_bytes 41 = .ok (.ldc 172, 2) := by decide +kernel
theorem d_Mod_bytes_43 : decode b_Mod_bytes 43 = .ok (.if_icmp .ge 7, 3) := by decide +kernel
theorem d_Mod_bytes_46 : decode b_Mod_bytes 46 = .ok (.iconst 3, 1) := by decide +kernel
theorem d_Mod_bytes_47 : decode b_Mod_bytes 47 = .ok (.goto 4, 3) := by decide +kernel
theorem d_Mod_bytes_50 : decode b_Mod_bytes 50 = .ok (.iconst 4, 1) := by decide +kernel
theorem d_Mod_bytes_51 : decode b_Mod_bytes 51 = .ok (.ireturn, 1) := by decide +kernel
theorem d_Mod_go_0 : decode b_Mod_go 0 = .ok (.iload_n 2, 1) := by decide +kernel
theorem d_Mod_go_1 : decode b_Mod_go 1 = .ok (.i2l, 1) := by decide +kernel
theorem d_Mod_go_2 : decode b_Mod_go 2 = .ok (.aload_n 0, 1) := by decide +kernel
theorem d_Mod_go_3 : decode b_Mod_go 3 = .ok (.getfield 78, 3) := by decide +kernel
theorem d_Mod_go_6 : decode b_Mod_go 6 = .ok (.iload_n 1, 1) := by decide +kernel
theorem d_Mod_go_7 : decode b_Mod_go 7 = .ok (.iaload, 1) := by decide +kernel
theorem d_Mod_go_8 : decode b_Mod_go 8 = .ok (.i2l, 1) := by decide +kernel
theorem d_Mod_go_9 : decode b_Mod_go 9 = .ok (.lsub, 1) := by decide +kernel
theorem d_Mod_go_10 : decode b_Mod_go 10 = .ok (.lstore_n 3, 1) := by decide +kernel
theorem d_Mod_go_11 : decode b_Mod_go 11 = .ok (.aload_n 0, 1) := by decide +kernel
theorem d_Mod_go_12 : decode b_Mod_go 12 = .ok (.lload_n 3, 1) := by decide +kernel
theorem d_Mod_go_13 : decode b_Mod_go 13 = .ok (.invokevirtual 163, 3) := by decide +kernel
theorem d_Mod_go_16 : decode b_Mod_go 16 = .ok (.lload_n 3, 1) := by decide +kernel
theorem d_Mod_go_17 : decode b_Mod_go 17 = .ok (.lconst 0, 1) := by decide +kernel
theorem d_Mod_go_18 : decode b_Mod_go 18 = .ok (.lcmp, 1) := by decide +kernel
theorem d_Mod_go_19 : decode b_Mod_go 19 = .ok (.ifCond .eq 10, 3) := by decide +kernel
theorem d_Mod_go_22 : decode b_Mod_go 22 = .ok (.aload_n 0, 1) := by decide +kernel
theorem d_Mod_go_23 : decode b_Mod_go 23 = .ok (.getfield 156, 3) := by decide +kernel
theorem d_Mod_go_26 : decode b_Mod_go 26 = .ok (.ifCond .ne 4, 3) := by decide +kernel
theorem d_Mod_go_29 : decode b_Mod_go 29 = .ok (.return_, 1) := by decide +kernel
theorem d_Mod_go_30 : decode b_Mod_go 30 = .ok (.iconst 2, 1) := by decide +kernel
theorem d_Mod_go_31 : decode b_Mod_go 31 = .ok (.iconst 2, 1) := by decide +kernel
theorem d_Mod_go_32 : decode b_Mod_go 32 = .ok (.iload_n 1, 1) := by decide +kernel
theorem d_Mod_go_33 : decode b_Mod_go 33 = .ok (.imul, 1) := by decide +kernel
theorem d_Mod_go_34 : decode b_Mod_go 34 = .ok (.iadd, 1) := by decide +kernel
theorem d_Mod_go_35 : decode b_Mod_go 35 = .ok (.istore 5, 2) := by decide +kernel
theorem d_Mod_go_37 : decode b_Mod_go 37 = .ok (.iload_n 1, 1) := by decide +kernel
theorem d_Mod_go_38 : decode b_Mod_go 38 = .ok (.ifCond .ne 9, 3) := by decide +kernel
theorem d_Mod_go_41 : decode b_Mod_go 41 = .ok (.sipush 147, 3) := by decide +kernel
theorem d_Mod_go_44 : decode b_Mod_go 44 = .ok (.goto 6, 3) := by decide +kernel
theorem d_Mod_go_47 : decode b_Mod_go 47 = .ok (.sipush 161, 3) := by decide +kernel
theorem d_Mod_go_50 : decode b_Mod_go 50 = .ok (.istore 6, 2) := by decide +kernel
theorem d_Mod_go_52 : decode b_Mod_go 52 = .ok (.aload_n 0, 1) := by decide +kernel
theorem d_Mod_go_53 : decode b_Mod_go 53 = .ok (.getfield 78, 3) := by decide +kernel
theorem d_Mod_go_56 : decode b_Mod_go 56 = .ok (.iload 5, 2) := by decide +kernel
theorem d_Mod_go_58 : decode b_Mod_go 58 = .ok (.iaload, 1) := by decide +kernel
theorem d_Mod_go_59 : decode b_Mod_go 59 = .ok (.i2l, 1) := by decide +kernel
theorem d_Mod_go_60 : decode b_Mod_go 60 = .ok (.lload_n 3, 1) := by decide +kernel
theorem d_Mod_go_61 : decode b_Mod_go 61 = .ok (.lcmp, 1) := by decide +kernel
theorem d_Mod_go_62 : decode b_Mod_go 62 = .ok (.ifCond .ne 7, 3) := by decide +kernel
theorem d_Mod_go_65 : decode b_Mod_go 65 = .ok (.iconst 0, 1) := by decide +kernel
theorem d_Mod_go_66 : decode b_Mod_go 66 = .ok (.goto 31, 3) := by decide +kernel
theorem d_Mod_go_69 : decode b_Mod_go 69 = .ok (.aload_n 0, 1) := by decide +kernel
theorem d_Mod_go_70 : decode b_Mod_go 70 = .ok (.getfield 78, 3) := by decide +kernel
theorem d_Mod_go_73 : decode b_Mod_go 73 = .ok (.iload 5, 2) := by decide +kernel
theorem d_Mod_go_75 : decode b_Mod_go 75 = .ok (.iconst 1, 1) := by decide +kernel
theorem d_Mod_go_76 : decode b_Mod_go 76 = .ok (.iadd, 1) := by decide +kernel
theorem d_Mod_go_77 : decode b_Mod_go 77 = .ok (.iaload, 1) := by decide +kernel
theorem d_Mod_go_78 : decode b_Mod_go 78 = .ok (.i2l, 1) := by decide +kernel
theorem d_Mod_go_79 : decode b_Mod_go 79 = .ok (.lload_n 3, 1) := by decide +kernel
theorem d_Mod_go_80 : decode b_Mod_go 80 = .ok (.lcmp, 1) := by decide +kernel
theorem d_Mod_go_81 : decode b_Mod_go 81 = .ok (.ifCond .ne 7, 3) := by decide +kernel
theorem d_Mod_go_84 : decode b_Mod_go 84 = .ok (.iconst 1, 1) := by decide +kernel
theorem d_Mod_go_85 : decode b_Mod_go 85 = .ok (.goto 12, 3) := by decide +kernel
theorem d_Mod_go_88 : decode b_Mod_go 88 = .ok (.aload_n 0, 1) := by decide +kernel
theorem d_Mod_go_89 : decode b_Mod_go 89 = .ok (.getfield 78, 3) := by decide +kernel
theorem d_Mod_go_92 : decode b_Mod_go 92 = .ok (.bipush 6, 2) := by decide +kernel
theorem d_Mod_go_94 : decode b_Mod_go 94 = .ok (.iload_n 1, 1) := by decide +kernel
theorem d_Mod_go_95 : decode b_Mod_go 95 = .ok (.iadd, 1) := by decide +kernel
theorem d_Mod_go_96 : decode b_Mod_go 96 = .ok (.iaload, 1) := by decide +kernel
theorem d_Mod_go_97 : decode b_Mod_go 97 = .ok (.istore 7, 2) := by decide +kernel
theorem d_Mod_go_99 : decode b_Mod_go 99 = .ok (.aload_n 0, 1) := by decide +kernel
theorem d_Mod_go_100 : decode b_Mod_go 100 = .ok (.getfield 78, 3) := by decide +kernel
theorem d_Mod_go_103 : decode b_Mod_go 103 = .ok (.iload 5, 2) := by decide +kernel
theorem d_Mod_go_105 : decode b_Mod_go 105 = .ok (.iload 7, 2) := by decide +kernel
theorem d_Mod_go_107 : decode b_Mod_go 107 = .ok (.iadd, 1) := by decide +kernel
theorem d_Mod_go_108 : decode b_Mod_go 108 = .ok (.iaload, 1) := by decide +kernel
theorem d_Mod_go_109 : decode b_Mod_go 109 = .ok (.i2l, 1) := by decide +kernel
theorem d_Mod_go_110 : decode b_Mod_go 110 = .ok (.lload_n 3, 1) := by decide +kernel
theorem d_Mod_go_111 : decode b_Mod_go 111 = .ok (.lcmp, 1) := by decide +kernel
theorem d_Mod_go_112 : decode b_Mod_go 112 = .ok (.ifCond .ne 18, 3) := by decide +kernel
theorem d_Mod_go_115 : decode b_Mod_go 115 = .ok (.aload_n 0, 1) := by decide +kernel
theorem d_Mod_go_116 : decode b_Mod_go 116 = .ok (.iload 6, 2) := by decide +kernel
theorem d_Mod_go_118 : decode b_Mod_go 118 = .ok (.iconst 5, 1) := by decide +kernel
theorem d_Mod_go_119 : decode b_Mod_go 119 = .ok (.iload 7, 2) := by decide +kernel
theorem d_Mod_go_121 : decode b_Mod_go 121 = .ok (.imul, 1) := by decide +kernel
theorem d_Mod_go_122 : decode b_Mod_go 122 = .ok (.iadd, 1) := by decide +kernel
theorem d_Mod_go_123 : decode b_Mod_go 123 = .ok (.iconst 1, 1) := by decide +kernel
theorem d_Mod_go_124 : decode b_Mod_go 124 = .ok (.invokevirtual 149, 3) := by decide +kernel
theorem d_Mod_go_127 : decode b_Mod_go 127 = .ok (.goto 45, 3) := by decide +kernel
theorem d_Mod_go_130 : decode b_Mod_go 130 = .ok (.lload_n 3, 1) := by decide +kernel
theorem d_Mod_go_131 : decode b_Mod_go 131 = .ok (.l2i, 1) := by decide +kernel
theorem d_Mod_go_132 : decode b_Mod_go 132 = .ok (.invokestatic 173, 3) := by decide +kernel
theorem d_Mod_go_135 : decode b_Mod_go 135 = .ok (.istore 8, 2) := by decide +kernel
theorem d_Mod_go_137 : decode b_Mod_go 137 = .ok (.aload_n 0, 1) := by decide +kernel
theorem d_Mod_go_138 : decode b_Mod_go 138 = .ok (.iload 6, 2) := by decide +kernel
theorem d_Mod_go_140 : decode b_Mod_go 140 = .ok (.iconst 5, 1) := by decide +kernel
theorem d_Mod_go_141 : decode b_Mod_go 141 = .ok (.iload 7, 2) := by decide +kernel
theorem d_Mod_go_143 : decode b_Mod_go 143 = .ok (.imul, 1) := by decide +kernel
theorem d_Mod_go_144 : decode b_Mod_go 144 = .ok (.iadd, 1) := by decide +kernel
theorem d_Mod_go_145 : decode b_Mod_go 145 = .ok (.iload 8, 2) := by decide +kernel
theorem d_Mod_go_147 : decode b_Mod_go 147 = .ok (.iadd, 1) := by decide +kernel
theorem d_Mod_go_148 : decode b_Mod_go 148 = .ok (.iconst 1, 1) := by decide +kernel
theorem d_Mod_go_149 : decode b_Mod_go 149 = .ok (.invokevirtual 149, 3) := by decide +kernel
theorem d_Mod_go_152 : decode b_Mod_go 152 = .ok (.aload_n 0, 1) := by decide +kernel
theorem d_Mod_go_153 : decode b_Mod_go 153 = .ok (.lload_n 3, 1) := by decide +kernel
theorem d_Mod_go_154 : decode b_Mod_go 154 = .ok (.l2i, 1) := by decide +kernel
theorem d_Mod_go_155 : decode b_Mod_go 155 = .ok (.iload 8, 2) := by decide +kernel
theorem d_Mod_go_157 : decode b_Mod_go 157 = .ok (.invokevirtual 149, 3) := by decide +kernel
theorem d_Mod_go_160 : decode b_Mod_go 160 = .ok (.aload_n 0, 1) := by decide +kernel
theorem d_Mod_go_161 : decode b_Mod_go 161 = .ok (.getfield 78, 3) := by decide +kernel
theorem d_Mod_go_164 : decode b_Mod_go 164 = .ok (.iload 5, 2) := by decide +kernel
theorem d_Mod_go_166 : decode b_Mod_go 166 = .ok (.iload 7, 2) := by decide +kernel
theorem d_Mod_go_168 : decode b_Mod_go 168 = .ok (.iadd, 1) := by decide +kernel
theorem d_Mod_go_169 : decode b_Mod_go 169 = .ok (.lload_n 3, 1) := by decide +kernel
theorem d_Mod_go_170 : decode b_Mod_go 170 = .ok (.l2i, 1) := by decide +kernel
theorem d_Mod_go_171 : decode b_Mod_go 171 = .ok (.iastore, 1) := by decide +kernel
theorem d_Mod_go_172 : decode b_Mod_go 172 = .ok (.aload_n 0, 1) := by decide +kernel
theorem d_Mod_go_173 : decode b_Mod_go 173 = .ok (.getfield 78, 3) := by decide +kernel
theorem d_Mod_go_176 : decode b_Mod_go 176 = .ok (.bipush 6, 2) := by decide +kernel
theorem d_Mod_go_178 : decode b_Mod_go 178 = .ok (.iload_n 1, 1) := by decide +kernel
theorem d_Mod_go_179 : decode b_Mod_go 179 = .ok (.iadd, 1) := by decide +kernel
theorem d_Mod_go_180 : decode b_Mod_go 180 = .ok (.iconst 1, 1) := by decide +kernel
theorem d_Mod_go_181 : decode b_Mod_go 181 = .ok (.iload 7, 2) := by decide +kernel
theorem d_Mod_go_183 : decode b_Mod_go 183 = .ok (.isub, 1) := by decide +kernel
theorem d_Mod_go_184 : decode b_Mod_go 184 = .ok (.iastore, 1) := by decide +kernel
theorem d_Mod_go_185 : decode b_Mod_go 185 = .ok (.aload_n 0, 1) := by decide +kernel
theorem d_Mod_go_186 : decode b_Mod_go 186 = .ok (.getfield 78, 3) := by decide +kernel
theorem d_Mod_go_189 : decode b_Mod_go 189 = .ok (.iload_n 1, 1) := by decide +kernel
theorem d_Mod_go_190 : decode b_Mod_go 190 = .ok (.iload_n 2, 1) := by decide +kernel
theorem d_Mod_go_191 : decode b_Mod_go 191 = .ok (.iastore, 1) := by decide +kernel
theorem d_Mod_go_192 : decode b_Mod_go 192 = .ok (.return_, 1) := by decide +kernel
theorem d_Mod_goTo_0 : decode b_Mod_goTo 0 = .ok (.aload_n 0, 1) := by decide +kernel
theorem d_Mod_goTo_1 : decode b_Mod_goTo 1 = .ok (.iconst 0, 1) := by decide +kernel
theorem d_Mod_goTo_2 : decode b_Mod_goTo 2 = .ok (.iload_n 1, 1) := by decide +kernel
theorem d_Mod_goTo_3 : decode b_Mod_goTo 3 = .ok (.invokevirtual 176, 3) := by decide +kernel
theorem d_Mod_goTo_6 : decode b_Mod_goTo 6 = .ok (.aload_n 0, 1) := by decide +kernel
theorem d_Mod_goTo_7 : decode b_Mod_goTo 7 = .ok (.iconst 1, 1) := by decide +kernel
theorem d_Mod_goTo_8 : decode b_Mod_goTo 8 = .ok (.iload_n 2, 1) := by decide +kernel
theorem d_Mod_goTo_9 : decode b_Mod_goTo 9 = .ok (.invokevirtual 176, 3) := by decide +kernel
theorem d_Mod_goTo_12 : decode b_Mod_goTo 12 = .ok (.return_, 1) := by decide +kernel
theorem d_Mod_writeCharacter_0 : decode b_Mod_writeCharacter 0 = .ok (.aload_n 0, 1) := by decide +kernel
theorem d_Mod_writeCharacter_1 : decode b_Mod_writeCharacter 1 = .ok (.getfield 22, 3) := by decide +kernel
theorem d_Mod_writeCharacter_4 : decode b_Mod_writeCharacter 4 = .ok (.iload_n 1, 1) := by decide +kernel
theorem d_Mod_writeCharacter_5 : decode b_Mod_writeCharacter 5 = .ok (.iaload, 1) := by decide +kernel
theorem d_Mod_writeCharacter_6 : decode b_Mod_writeCharacter 6 = .ok (.istore_n 2, 1) := by decide +kernel
theorem d_Mod_writeCharacter_7 : decode b_Mod_writeCharacter 7 = .ok (.aload_n 0, 1) := by decide +kernel
theorem d_Mod_writeCharacter_8 : decode b_Mod_writeCharacter 8 = .ok (.getfield 47, 3) := by decide +kernel
theorem d_Mod_writeCharacter_11 : decode b_Mod_writeCharacter 11 = .ok (.iload_n 2, 1) := by decide +kernel
theorem d_Mod_writeCharacter_12 : decode b_Mod_writeCharacter 12 = .ok (.baload, 1) := by decide +kernel
theorem d_Mod_writeCharacter_13 : decode b_Mod_writeCharacter 13 = .ok (.ifCond .ne 15, 3) := by decide +kernel
theorem d_Mod_writeCharacter_16 : decode b_Mod_writeCharacter 16 = .ok (.aload_n 0, 1) := by decide +kernel
theorem d_Mod_writeCharacter_17 : decode b_Mod_writeCharacter 17 = .ok (.getfield 47, 3) := by decide +kernel
theorem d_Mod_writeCharacter_20 : decode b_Mod_writeCharacter 20 = .ok (.iload_n 2, 1) := by decide +kernel
theorem d_Mod_writeCharacter_21 : decode b_Mod_writeCharacter 21 = .ok (.iconst 1, 1) := by decide +kernel
theorem d_Mod_writeCharacter_22 : decode b_Mod_writeCharacter 22 = .ok (.bastore, 1) := by decide +kernel
theorem d_Mod_writeCharacter_23 : decode b_Mod_writeCharacter 23 = .ok (.aload_n 0, 1) := by decide +kernel
theorem d_Mod_writeCharacter_24 : decode b_Mod_writeCharacter 24 = .ok (.iload_n 2, 1) := by decide +kernel
theorem d_Mod_writeCharacter_25 : decode b_Mod_writeCharacter 25 = .ok (.invokevirtual 179, 3) := by decide +kernel
theorem d_Mod_writeCharacter_28 : decode b_Mod_writeCharacter 28 = .ok (.iload_n 2, 1) := by decide +kernel
theorem d_Mod_writeCharacter_29 : decode b_Mod_writeCharacter 29 = .ok (.aload_n 0, 1) := by decide +kernel
theorem d_Mod_writeCharacter_30 : decode b_Mod_writeCharacter 30 = .ok (.getfield 182, 3) := by decide +kernel
theorem d_Mod_writeCharacter_33 : decode b_Mod_writeCharacter 33 = .ok (.if_icmp .eq 18, 3) := by decide +kernel
theorem d_Mod_writeCharacter_36 : decode b_Mod_writeCharacter 36 = .ok (.aload_n 0, 1) := by decide +kernel
theorem d_Mod_writeCharacter_37 : decode b_Mod_writeCharacter 37 = .ok (.sipush 171, 3) := by decide +kernel
theorem d_Mod_writeCharacter_40 : decode b_Mod_writeCharacter 40 = .ok (.iload_n 2, 1) := by decide +kernel
theorem d_Mod_writeCharacter_41 : decode b_Mod_writeCharacter 41 = .ok (.iadd, 1) := by decide +kernel
theorem d_Mod_writeCharacter_42 : decode b_Mod_writeCharacter 42 = .ok (.iconst 1, 1) := by decide +kernel
theorem d_Mod_writeCharacter_43 : decode b_Mod_writeCharacter 43 = .ok (.invokevirtual 149, 3) := by decide +kernel
theorem d_Mod_writeCharacter_46 : decode b_Mod_writeCharacter 46 = .ok (.aload_n 0, 1) := by decide +kernel
theorem d_Mod_writeCharacter_47 : decode b_Mod_writeCharacter 47 = .ok (.iload_n 2, 1) := by decide +kernel
theorem d_Mod_writeCharacter_48 : decode b_Mod_writeCharacter 48 = .ok (.putfield 182, 3) := by decide +kernel
theorem d_Mod_writeCharacter_51 : decode b_Mod_writeCharacter 51 = .ok (.aload_n 0, 1) := by decide +kernel
theorem d_Mod_writeCharacter_52 : decode b_Mod_writeCharacter 52 = .ok (.getfield 25, 3) := by decide +kernel
theorem d_Mod_writeCharacter_55 : decode b_Mod_writeCharacter 55 = .ok (.iload_n 1, 1) := by decide +kernel
theorem d_Mod_writeCharacter_56 : decode b_Mod_writeCharacter 56 = .ok (.iaload, 1) := by decide +kernel
theorem d_Mod_writeCharacter_57 : decode b_Mod_writeCharacter 57 = .ok (.bipush 127, 2) := by decide +kernel
theorem d_Mod_writeCharacter_59 : decode b_Mod_writeCharacter 59 = .ok (.if_icmp .le 11, 3) := by decide +kernel
theorem d_Mod_writeCharacter_62 : decode b_Mod_writeCharacter 62 = .ok (.aload_n 0, 1) := by decide +kernel
theorem d_Mod_writeCharacter_63 : decode b_Mod_writeCharacter 63 = .ok (.sipush 128, 3) := by decide +kernel
theorem d_Mod_writeCharacter_66 : decode b_Mod_writeCharacter 66 = .ok (.iconst 1, 1) := by decide +kernel
theorem d_Mod_writeCharacter_67 : decode b_Mod_writeCharacter 67 = .ok (.invokevirtual 149, 3) := by decide +kernel
theorem d_Mod_writeCharacter_70 : decode b_Mod_writeCharacter 70 = .ok (.aload_n 0, 1) := by decide +kernel
theorem d_Mod_writeCharacter_71 : decode b_Mod_writeCharacter 71 = .ok (.aload_n 0, 1) := by decide +kernel
theorem d_Mod_writeCharacter_72 : decode b_Mod_writeCharacter 72 = .ok (.getfield 25, 3) := by decide +kernel
theorem d_Mod_writeCharacter_75 : decode b_Mod_writeCharacter 75 = .ok (.iload_n 1, 1) := by decide +kernel
theorem d_Mod_writeCharacter_76 : decode b_Mod_writeCharacter 76 = .ok (.iaload, 1) := by decide +kernel
theorem d_Mod_writeCharacter_77 : decode b_Mod_writeCharacter 77 = .ok (.iconst 1, 1) := by decide +kernel
theorem d_Mod_writeCharacter_78 : decode b_Mod_writeCharacter 78 = .ok (.invokevirtual 149, 3) := by decide +kernel
theorem d_Mod_writeCharacter_81 : decode b_Mod_writeCharacter 81 = .ok (.return_, 1) := by decide +kernel
theorem d_Mod_leave_0 : decode b_Mod_leave 0 = .ok (.aload_n 0, 1) := by decide +kernel
theorem d_Mod_leave_1 : decode b_Mod_leave 1 = .ok (.dup, 1) := by decide +kernel
theorem d_Mod_leave_2 : decode b_Mod_leave 2 = .ok (.getfield 160, 3) := by decide +kernel
theorem d_Mod_leave_5 : decode b_Mod_leave 5 = .ok (.iconst 1, 1) := by decide +kernel
theorem d_Mod_leave_6 : decode b_Mod_leave 6 = .ok (.isub, 1) := by decide +kernel
theorem d_Mod_leave_7 : decode b_Mod_leave 7 = .ok (.putfield 160, 3) := by decide +kernel
theorem d_Mod_leave_10 : decode b_Mod_leave 10 = .ok (.iconst 0, 1) := by decide +kernel
theorem d_Mod_leave_11 : decode b_Mod_leave 11 = .ok (.istore_n 1, 1) := by decide +kernel
theorem d_Mod_leave_12 : decode b_Mod_leave 12 = .ok (.iload_n 1, 1) := by decide +kernel
theorem d_Mod_leave_13 : decode b_Mod_leave 13 = .ok (.bipush 8, 2) := by decide +kernel
theorem d_Mod_leave_15 : decode b_Mod_leave 15 = .ok (.if_icmp .ge 29, 3) := by decide +kernel
theorem d_Mod_leave_18 : decode b_Mod_leave 18 = .ok (.aload_n 0, 1) := by decide +kernel
theorem d_Mod_leave_19 : decode b_Mod_leave 19 = .ok (.getfield 78, 3) := by decide +kernel
theorem d_Mod_leave_22 : decode b_Mod_leave 22 = .ok (.iload_n 1, 1) := by decide +kernel
theorem d_Mod_leave_23 : decode b_Mod_leave 23 = .ok (.aload_n 0, 1) := by decide +kernel
theorem d_Mod_leave_24 : decode b_Mod_leave 24 = .ok (.getfield 75, 3) := by decide +kernel
theorem d_Mod_leave_27 : decode b_Mod_leave 27 = .ok (.bipush 8, 2) := by decide +kernel
theorem d_Mod_leave_29 : decode b_Mod_leave 29 = .ok (.aload_n 0, 1) := by decide +kernel
theorem d_Mod_leave_30 : decode b_Mod_leave 30 = .ok (.getfield 160, 3) := by decide +kernel
theorem d_Mod_leave_33 : decode b_Mod_leave 33 = .ok (.imul, 1) := by decide +kernel
theorem d_Mod_leave_34 : decode b_Mod_leave 34 = .ok (.iload_n 1, 1) := by decide +kernel
theorem d_Mod_leave_35 : decode b_Mod_leave 35 = .ok (.iadd, 1) := by decide +kernel
theorem d_Mod_leave_36 : decode b_Mod_leave 36 = .ok (.iaload, 1) := by decide +kernel
theorem d_Mod_leave_37 : decode b_Mod_leave 37 = .ok (.iastore, 1) := by decide +kernel
theorem d_Mod_leave_38 : decode b_Mod_leave 38 = .ok (.iinc 1 1, 3) := by decide +kernel
theorem d_Mod_leave_41 : decode b_Mod_leave 41 = .ok (.goto (-29), 3) := by decide +kernel
theorem d_Mod_leave_44 : decode b_Mod_leave 44 = .ok (.aload_n 0, 1) := by decide +kernel
theorem d_Mod_leave_45 : decode b_Mod_leave 45 = .ok (.sipush 142, 3) := by decide +kernel
theorem d_Mod_leave_48 : decode b_Mod_leave 48 = .ok (.iconst 1, 1) := by decide +kernel
theorem d_Mod_leave_49 : decode b_Mod_leave 49 = .ok (.invokevirtual 149, 3) := by decide +kernel
theorem d_Mod_leave_52 : decode b_Mod_leave 52 = .ok (.return_, 1) := by decide +kernel
theorem d_Mod_writeRule_0 : decode b_Mod_writeRule 0 = .ok (.aload_n 0, 1) := by decide +kernel
theorem d_Mod_writeRule_1 : decode b_Mod_writeRule 1 = .ok (.getfield 7, 3) := by decide +kernel
theorem d_Mod_writeRule_4 : decode b_Mod_writeRule 4 = .ok (.iload_n 2, 1) := by decide +kernel
theorem d_Mod_writeRule_5 : decode b_Mod_writeRule 5 = .ok (.iaload, 1) := by decide +kernel
theorem d_Mod_writeRule_6 : decode b_Mod_writeRule 6 = .ok (.iconst 4, 1) := by decide +kernel
theorem d_Mod_writeRule_7 : decode b_Mod_writeRule 7 = .ok (.if_icmp .ne 7, 3) := by decide +kernel
theorem d_Mod_writeRule_10 : decode b_Mod_writeRule 10 = .ok (.iconst 1, 1) := by decide +kernel
theorem d_Mod_writeRule_11 : decode b_Mod_writeRule 11 = .ok (.goto 4, 3) := by decide +kernel
theorem d_Mod_writeRule_14 : decode b_Mod_writeRule 14 = .ok (.iconst 0, 1) := by decide +kernel
theorem d_Mod_writeRule_15 : decode b_Mod_writeRule 15 = .ok (.istore 4, 2) := by decide +kernel
theorem d_Mod_writeRule_17 : decode b_Mod_writeRule 17 = .ok (.aload_n 0, 1) := by decide +kernel
theorem d_Mod_writeRule_18 : decode b_Mod_writeRule 18 = .ok (.getfield 13, 3) := by decide +kernel
theorem d_Mod_writeRule_21 : decode b_Mod_writeRule 21 = .ok (.iload_n 1, 1) := by decide +kernel
theorem d_Mod_writeRule_22 : decode b_Mod_writeRule 22 = .ok (.iaload, 1) := by decide +kernel
theorem d_Mod_writeRule_23 : decode b_Mod_writeRule 23 = .ok (.ldc 115, 2) := by decide +kernel
theorem d_Mod_writeRule_25 : decode b_Mod_writeRule 25 = .ok (.if_icmp .ne 12, 3) := by decide +kernel
theorem d_Mod_writeRule_28 : decode b_Mod_writeRule 28 = .ok (.aload_n 0, 1) := by decide +kernel
theorem d_Mod_writeRule_29 : decode b_Mod_writeRule 29 = .ok (.getfield 13, 3) := by decide +kernel
theorem d_Mod_writeRule_32 : decode b_Mod_writeRule 32 = .ok (.iload_n 2, 1) := by decide +kernel
theorem d_Mod_writeRule_33 : decode b_Mod_writeRule 33 = .ok (.iaload, 1) := by decide +kernel
theorem d_Mod_writeRule_34 : decode b_Mod_writeRule 34 = .ok (.goto 9, 3) := by decide +kernel
theorem d_Mod_writeRule_37 : decode b_Mod_writeRule 37 = .ok (.aload_n 0, 1) := by decide +kernel
theorem d_Mod_writeRule_38 : decode b_Mod_writeRule 38 = .ok (.getfield 13, 3) := by decide +kernel
theorem d_Mod_writeRule_41 : decode b_Mod_writeRule 41 = .ok (.iload_n 1, 1) := by decide +kernel
theorem d_Mod_writeRule_42 : decode b_Mod_writeRule 42 = .ok (.iaload, 1) := by decide +kernel
theorem d_Mod_writeRule_43 : decode b_Mod_writeRule 43 = .ok (.istore 5, 2) := by decide +kernel
theorem d_Mod_writeRule_45 : decode b_Mod_writeRule 45 = .ok (.aload_n 0, 1) := by decide +kernel
theorem d_Mod_writeRule_46 : decode b_Mod_writeRule 46 = .ok (.getfield 16, 3) := by decide +kernel
theorem d_Mod_writeRule_49 : decode b_Mod_writeRule 49 = .ok (.iload_n 1, 1) := by decide +kernel
theorem d_Mod_writeRule_50 : decode b_Mod_writeRule 50 = .ok (.iaload, 1) := by decide +kernel
theorem d_Mod_writeRule_51 : decode b_Mod_writeRule 51 = .ok (.ldc 115, 2) := by decide +kernel
theorem d_Mod_writeRule_53 : decode b_Mod_writeRule 53 = .ok (.if_icmp .ne 12, 3) := by decide +kernel
theorem d_Mod_writeRule_56 : decode b_Mod_writeRule 56 = .ok (.aload_n 0, 1) := by decide +kernel
theorem d_Mod_writeRule_57 : decode b_Mod_writeRule 57 = .ok (.getfield 16, 3) := by decide +kernel
theorem d_Mod_writeRule_60 : decode b_Mod_writeRule 60 = .ok (.iload_n 2, 1) := by decide +kernel
theorem d_Mod_writeRule_61 : decode b_Mod_writeRule 61 = .ok (.iaload, 1) := by decide +kernel
theorem d_Mod_writeRule_62 : decode b_Mod_writeRule 62 = .ok (.goto 9, 3) := by decide +kernel
theorem d_Mod_writeRule_65 : decode b_Mod_writeRule 65 = .ok (.aload_n 0, 1) := by decide +kernel
theorem d_Mod_writeRule_66 : decode b_Mod_writeRule 66 = .ok (.getfield 16, 3) := by decide +kernel
theorem d_Mod_writeRule_69 : decode b_Mod_writeRule 69 = .ok (.iload_n 1, 1) := by decide +kernel
theorem d_Mod_writeRule_70 : decode b_Mod_writeRule 70 = .ok (.iaload, 1) := by decide +kernel
theorem d_Mod_writeRule_71 : decode b_Mod_writeRule 71 = .ok (.istore 6, 2) := by decide +kernel
theorem d_Mod_writeRule_73 : decode b_Mod_writeRule 73 = .ok (.aload_n 0, 1) := by decide +kernel
theorem d_Mod_writeRule_74 : decode b_Mod_writeRule 74 = .ok (.getfield 19, 3) := by decide +kernel
theorem d_Mod_writeRule_77 : decode b_Mod_writeRule 77 = .ok (.iload_n 1, 1) := by decide +kernel
theorem d_Mod_writeRule_78 : decode b_Mod_writeRule 78 = .ok (.iaload, 1) := by decide +kernel
theorem d_Mod_writeRule_79 : decode b_Mod_writeRule 79 = .ok (.ldc 115, 2) := by decide +kernel
theorem d_Mod_writeRule_81 : decode b_Mod_writeRule 81 = .ok (.if_icmp .ne 12, 3) := by decide +kernel
theorem d_Mod_writeRule_84 : decode b_Mod_writeRule 84 = .ok (.aload_n 0, 1) := by decide +kernel
theorem d_Mod_writeRule_85 : decode b_Mod_writeRule 85 = .ok (.getfield 19, 3) := by decide +kernel
theorem d_Mod_writeRule_88 : decode b_Mod_writeRule 88 = .ok (.iload_n 2, 1) := by decide +kernel
theorem d_Mod_writeRule_89 : decode b_Mod_writeRule 89 = .ok (.iaload, 1) := by decide +kernel
theorem d_Mod_writeRule_90 : decode b_Mod_writeRule 90 = .ok (.goto 9, 3) := by decide +kernel
theorem d_Mod_writeRule_93 : decode b_Mod_writeRule 93 = .ok (.aload_n 0, 1) := by decide +kernel
theorem d_Mod_writeRule_94 : decode b_Mod_writeRule 94 = .ok (.getfield 19, 3) := by decide +kernel
theorem d_Mod_writeRule_97 : decode b_Mod_writeRule 97 = .ok (.iload_n 1, 1) := by decide +kernel
theorem d_Mod_writeRule_98 : decode b_Mod_writeRule 98 = .ok (.iaload, 1) := by decide +kernel
theorem d_Mod_writeRule_99 : decode b_Mod_writeRule 99 = .ok (.istore 7, 2) := by decide +kernel
theorem d_Mod_writeRule_101 : decode b_Mod_writeRule 101 = .ok (.iload 5, 2) := by decide +kernel
theorem d_Mod_writeRule_103 : decode b_Mod_writeRule 103 = .ok (.ifCond .le 98, 3) := by decide +kernel
theorem d_Mod_writeRule_106 : decode b_Mod_writeRule 106 = .ok (.iload 6, 2) := by decide +kernel
theorem d_Mod_writeRule_108 : decode b_Mod_writeRule 108 = .ok (.iload 7, 2) := by decide +kernel
theorem d_Mod_writeRule_110 : decode b_Mod_writeRule 110 = .ok (.iadd, 1) := by decide +kernel
theorem d_Mod_writeRule_111 : decode b_Mod_writeRule 111 = .ok (.ifCond .le 90, 3) := by decide +kernel
theorem d_Mod_writeRule_114 : decode b_Mod_writeRule 114 = .ok (.aload_n 0, 1) := by decide +kernel
theorem d_Mod_writeRule_115 : decode b_Mod_writeRule 115 = .ok (.aload_n 0, 1) := by decide +kernel
theorem d_Mod_writeRule_116 : decode b_Mod_writeRule 116 = .ok (.getfield 62, 3) := by decide +kernel
theorem d_Mod_writeRule_119 : decode b_Mod_writeRule 119 = .ok (.iload_n 1, 1) := by decide +kernel
theorem d_Mod_writeRule_120 : decode b_Mod_writeRule 120 = .ok (.iload_n 3, 1) := by decide +kernel
theorem d_Mod_writeRule_121 : decode b_Mod_writeRule 121 = .ok (.isub, 1) := by decide +kernel
theorem d_Mod_writeRule_122 : decode b_Mod_writeRule 122 = .ok (.iaload, 1) := by decide +kernel
theorem d_Mod_writeRule_123 : decode b_Mod_writeRule 123 = .ok (.aload_n 0, 1) := by decide +kernel
theorem d_Mod_writeRule_124 : decode b_Mod_writeRule 124 = .ok (.getfield 65, 3) := by decide +kernel
theorem d_Mod_writeRule_127 : decode b_Mod_writeRule 127 = .ok (.iload_n 1, 1) := by decide +kernel
theorem d_Mod_writeRule_128 : decode b_Mod_writeRule 128 = .ok (.iload_n 3, 1) := by decide +kernel
theorem d_Mod_writeRule_129 : decode b_Mod_writeRule 129 = .ok (.isub, 1) := by decide +kernel
theorem d_Mod_writeRule_130 : decode b_Mod_writeRule 130 = .ok (.iaload, 1) := by decide +kernel
theorem d_Mod_writeRule_131 : decode b_Mod_writeRule 131 = .ok (.invokevirtual 185, 3) := by decide +kernel
theorem d_Mod_writeRule_134 : decode b_Mod_writeRule 134 = .ok (.aload_n 0, 1) := by decide +kernel
theorem d_Mod_writeRule_135 : decode b_Mod_writeRule 135 = .ok (.iload 4, 2) := by decide +kernel
theorem d_Mod_writeRule_137 : decode b_Mod_writeRule 137 = .ok (.ifCond .eq 9, 3) := by decide +kernel
theorem d_Mod_writeRule_140 : decode b_Mod_writeRule 140 = .ok (.sipush 132, 3) := by decide +kernel
theorem d_Mod_writeRule_143 : decode b_Mod_writeRule 143 = .ok (.goto 6, 3) := by decide +kernel
theorem d_Mod_writeRule_146 : decode b_Mod_writeRule 146 = .ok (.sipush 137, 3) := by decide +kernel
theorem d_Mod_writeRule_149 : decode b_Mod_writeRule 149 = .ok (.iconst 1, 1) := by decide +kernel
theorem d_Mod_writeRule_150 : decode b_Mod_writeRule 150 = .ok (.invokevirtual 149, 3) := by decide +kernel
theorem d_Mod_writeRule_153 : decode b_Mod_writeRule 153 = .ok (.aload_n 0, 1) := by decide +kernel
theorem d_Mod_writeRule_154 : decode b_Mod_writeRule 154 = .ok (.iload 6, 2) := by decide +kernel
theorem d_Mod_writeRule_156 : decode b_Mod_writeRule 156 = .ok (.iload 7, 2) := by decide +kernel
theorem d_Mod_writeRule_158 : decode b_Mod_writeRule 158 = .ok (.iadd, 1) := by decide +kernel
theorem d_Mod_writeRule_159 : decode b_Mod_writeRule 159 = .ok (.iconst 4, 1) := by decide +kernel
theorem d_Mod_writeRule_160 : decode b_Mod_writeRule 160 = .ok (.invokevirtual 149, 3) := by decide +kernel
theorem d_Mod_writeRule_163 : decode b_Mod_writeRule 163 = .ok (.aload_n 0, 1) := by decide +kernel
theorem d_Mod_writeRule_164 : decode b_Mod_writeRule 164 = .ok (.iload 5, 2) := by decide +kernel
theorem d_Mod_writeRule_166 : decode b_Mod_writeRule 166 = .ok (.iconst 4, 1) := by decide +kernel
theorem d_Mod_writeRule_167 : decode b_Mod_writeRule 167 = .ok (.invokevirtual 149, 3) := by decide +kernel
theorem d_Mod_writeRule_170 : decode b_Mod_writeRule 170 = .ok (.iload 4, 2) := by decide +kernel
end
section
theorem d_Mod_writeRule_172 : decode b_Mod_writeRule 172 = .ok (.ifCond .eq 29, 3) := by decide +kernel
theorem d_Mod_writeRule_175 : decode b_Mod_writeRule 175 = .ok (.aload_n 0, 1) := by decide +kernel
theorem d_Mod_writeRule_176 : decode b_Mod_writeRule 176 = .ok (.aload_n 0, 1) := by decide +kernel
theorem d_Mod_writeRule_177 : decode b_Mod_writeRule 177 = .ok (.getfield 78, 3) := by decide +kernel
theorem d_Mod_writeRule_180 : decode b_Mod_writeRule 180 = .ok (.iconst 0, 1) := by decide +kernel
theorem d_Mod_writeRule_181 : decode b_Mod_writeRule 181 = .ok (.iaload, 1) := by decide +kernel
theorem d_Mod_writeRule_182 : decode b_Mod_writeRule 182 = .ok (.i2l, 1) := by decide +kernel
theorem d_Mod_writeRule_183 : decode b_Mod_writeRule 183 = .ok (.iload 5, 2) := by decide +kernel
theorem d_Mod_writeRule_185 : decode b_Mod_writeRule 185 = .ok (.i2l, 1) := by decide +kernel
theorem d_Mod_writeRule_186 : decode b_Mod_writeRule 186 = .ok (.ladd, 1) := by decide +kernel
theorem d_Mod_writeRule_187 : decode b_Mod_writeRule 187 = .ok (.invokevirtual 163, 3) := by decide +kernel
theorem d_Mod_writeRule_190 : decode b_Mod_writeRule 190 = .ok (.aload_n 0, 1) := by decide +kernel
theorem d_Mod_writeRule_191 : decode b_Mod_writeRule 191 = .ok (.getfield 78, 3) := by decide +kernel
theorem d_Mod_writeRule_194 : decode b_Mod_writeRule 194 = .ok (.iconst 0, 1) := by decide +kernel
theorem d_Mod_writeRule_195 : decode b_Mod_writeRule 195 = .ok (.dup2, 1) := by decide +kernel
theorem d_Mod_writeRule_196 : decode b_Mod_writeRule 196 = .ok (.iaload, 1) := by decide +kernel
theorem d_Mod_writeRule_197 : decode b_Mod_writeRule 197 = .ok (.iload 5, 2) := by decide +kernel
theorem d_Mod_writeRule_199 : decode b_Mod_writeRule 199 = .ok (.iadd, 1) := by decide +kernel
theorem d_Mod_writeRule_200 : decode b_Mod_writeRule 200 = .ok (.iastore, 1) := by decide +kernel
theorem d_Mod_writeRule_201 : decode b_Mod_writeRule 201 = .ok (.return_, 1) := by decide +kernel
theorem d_Mod_writeAll_0 : decode b_Mod_writeAll 0 = .ok (.aload_n 0, 1) := by decide +kernel
theorem d_Mod_writeAll_1 : decode b_Mod_writeAll 1 = .ok (.iconst 0, 1) := by decide +kernel
theorem d_Mod_writeAll_2 : decode b_Mod_writeAll 2 = .ok (.putfield 160, 3) := by decide +kernel
theorem d_Mod_writeAll_5 : decode b_Mod_writeAll 5 = .ok (.iload_n 1, 1) := by decide +kernel
theorem d_Mod_writeAll_6 : decode b_Mod_writeAll 6 = .ok (.istore_n 3, 1) := by decide +kernel
theorem d_Mod_writeAll_7 : decode b_Mod_writeAll 7 = .ok (.iload_n 1, 1) := by decide +kernel
theorem d_Mod_writeAll_8 : decode b_Mod_writeAll 8 = .ok (.istore 4, 2) := by decide +kernel
theorem d_Mod_writeAll_10 : decode b_Mod_writeAll 10 = .ok (.iload 4, 2) := by decide +kernel
theorem d_Mod_writeAll_12 : decode b_Mod_writeAll 12 = .ok (.iload_n 1, 1) := by decide +kernel
theorem d_Mod_writeAll_13 : decode b_Mod_writeAll 13 = .ok (.iload_n 2, 1) := by decide +kernel
theorem d_Mod_writeAll_14 : decode b_Mod_writeAll 14 = .ok (.iadd, 1) := by decide +kernel
theorem d_Mod_writeAll_15 : decode b_Mod_writeAll 15 = .ok (.if_icmp .ge 295, 3) := by decide +kernel
theorem d_Mod_writeAll_18 : decode b_Mod_writeAll 18 = .ok (.aload_n 0, 1) := by decide +kernel
theorem d_Mod_writeAll_19 : decode b_Mod_writeAll 19 = .ok (.getfield 156, 3) := by decide +kernel
theorem d_Mod_writeAll_22 : decode b_Mod_writeAll 22 = .ok (.ifCond .eq 288, 3) := by decide +kernel
theorem d_Mod_writeAll_25 : decode b_Mod_writeAll 25 = .ok (.aload_n 0, 1) := by decide +kernel
theorem d_Mod_writeAll_26 : decode b_Mod_writeAll 26 = .ok (.getfield 160, 3) := by decide +kernel
theorem d_Mod_writeAll_29 : decode b_Mod_writeAll 29 = .ok (.ifCond .le 26, 3) := by decide +kernel
theorem d_Mod_writeAll_32 : decode b_Mod_writeAll 32 = .ok (.aload_n 0, 1) := by decide +kernel
theorem d_Mod_writeAll_33 : decode b_Mod_writeAll 33 = .ok (.getfield 68, 3) := by decide +kernel
theorem d_Mod_writeAll_36 : decode b_Mod_writeAll 36 = .ok (.aload_n 0, 1) := by decide +kernel
theorem d_Mod_writeAll_37 : decode b_Mod_writeAll 37 = .ok (.getfield 160, 3) := by decide +kernel
theorem d_Mod_writeAll_40 : decode b_Mod_writeAll 40 = .ok (.iconst 1, 1) := by decide +kernel
theorem d_Mod_writeAll_41 : decode b_Mod_writeAll 41 = .ok (.isub, 1) := by decide +kernel
theorem d_Mod_writeAll_42 : decode b_Mod_writeAll 42 = .ok (.iaload, 1) := by decide +kernel
theorem d_Mod_writeAll_43 : decode b_Mod_writeAll 43 = .ok (.iload 4, 2) := by decide +kernel
theorem d_Mod_writeAll_45 : decode b_Mod_writeAll 45 = .ok (.if_icmp .gt 10, 3) := by decide +kernel
theorem d_Mod_writeAll_48 : decode b_Mod_writeAll 48 = .ok (.aload_n 0, 1) := by decide +kernel
theorem d_Mod_writeAll_49 : decode b_Mod_writeAll 49 = .ok (.invokevirtual 188, 3) := by decide +kernel
theorem d_Mod_writeAll_52 : decode b_Mod_writeAll 52 = .ok (.goto (-27), 3) := by decide +kernel
theorem d_Mod_writeAll_55 : decode b_Mod_writeAll 55 = .ok (.aload_n 0, 1) := by decide +kernel
theorem d_Mod_writeAll_56 : decode b_Mod_writeAll 56 = .ok (.iload 4, 2) := by decide +kernel
theorem d_Mod_writeAll_58 : decode b_Mod_writeAll 58 = .ok (.invokevirtual 116, 3) := by decide +kernel
theorem d_Mod_writeAll_61 : decode b_Mod_writeAll 61 = .ok (.ifCond .eq 140, 3) := by decide +kernel
theorem d_Mod_writeAll_64 : decode b_Mod_writeAll 64 = .ok (.aload_n 0, 1) := by decide +kernel
theorem d_Mod_writeAll_65 : decode b_Mod_writeAll 65 = .ok (.getfield 28, 3) := by decide +kernel
theorem d_Mod_writeAll_68 : decode b_Mod_writeAll 68 = .ok (.iload 4, 2) := by decide +kernel
theorem d_Mod_writeAll_70 : decode b_Mod_writeAll 70 = .ok (.iaload, 1) := by decide +kernel
theorem d_Mod_writeAll_71 : decode b_Mod_writeAll 71 = .ok (.iconst 1, 1) := by decide +kernel
theorem d_Mod_writeAll_72 : decode b_Mod_writeAll 72 = .ok (.if_icmp .le 129, 3) := by decide +kernel
theorem d_Mod_writeAll_75 : decode b_Mod_writeAll 75 = .ok (.aload_n 0, 1) := by decide +kernel
theorem d_Mod_writeAll_76 : decode b_Mod_writeAll 76 = .ok (.aload_n 0, 1) := by decide +kernel
theorem d_Mod_writeAll_77 : decode b_Mod_writeAll 77 = .ok (.getfield 62, 3) := by decide +kernel
theorem d_Mod_writeAll_80 : decode b_Mod_writeAll 80 = .ok (.iload 4, 2) := by decide +kernel
theorem d_Mod_writeAll_82 : decode b_Mod_writeAll 82 = .ok (.iload_n 1, 1) := by decide +kernel
theorem d_Mod_writeAll_83 : decode b_Mod_writeAll 83 = .ok (.isub, 1) := by decide +kernel
theorem d_Mod_writeAll_84 : decode b_Mod_writeAll 84 = .ok (.iaload, 1) := by decide +kernel
theorem d_Mod_writeAll_85 : decode b_Mod_writeAll 85 = .ok (.aload_n 0, 1) := by decide +kernel
theorem d_Mod_writeAll_86 : decode b_Mod_writeAll 86 = .ok (.getfield 65, 3) := by decide +kernel
theorem d_Mod_writeAll_89 : decode b_Mod_writeAll 89 = .ok (.iload 4, 2) := by decide +kernel
theorem d_Mod_writeAll_91 : decode b_Mod_writeAll 91 = .ok (.iload_n 1, 1) := by decide +kernel
theorem d_Mod_writeAll_92 : decode b_Mod_writeAll 92 = .ok (.isub, 1) := by decide +kernel
theorem d_Mod_writeAll_93 : decode b_Mod_writeAll 93 = .ok (.iaload, 1) := by decide +kernel
theorem d_Mod_writeAll_94 : decode b_Mod_writeAll 94 = .ok (.invokevirtual 185, 3) := by decide +kernel
theorem d_Mod_writeAll_97 : decode b_Mod_writeAll 97 = .ok (.iconst 0, 1) := by decide +kernel
theorem d_Mod_writeAll_98 : decode b_Mod_writeAll 98 = .ok (.istore 5, 2) := by decide +kernel
theorem d_Mod_writeAll_100 : decode b_Mod_writeAll 100 = .ok (.iload 5, 2) := by decide +kernel
theorem d_Mod_writeAll_102 : decode b_Mod_writeAll 102 = .ok (.bipush 8, 2) := by decide +kernel
theorem d_Mod_writeAll_104 : decode b_Mod_writeAll 104 = .ok (.if_icmp .ge 31, 3) := by decide +kernel
theorem d_Mod_writeAll_107 : decode b_Mod_writeAll 107 = .ok (.aload_n 0, 1) := by decide +kernel
theorem d_Mod_writeAll_108 : decode b_Mod_writeAll 108 = .ok (.getfield 75, 3) := by decide +kernel
theorem d_Mod_writeAll_111 : decode b_Mod_writeAll 111 = .ok (.bipush 8, 2) := by decide +kernel
theorem d_Mod_writeAll_113 : decode b_Mod_writeAll 113 = .ok (.aload_n 0, 1) := by decide +kernel
theorem d_Mod_writeAll_114 : decode b_Mod_writeAll 114 = .ok (.getfield 160, 3) := by decide +kernel
theorem d_Mod_writeAll_117 : decode b_Mod_writeAll 117 = .ok (.imul, 1) := by decide +kernel
theorem d_Mod_writeAll_118 : decode b_Mod_writeAll 118 = .ok (.iload 5, 2) := by decide +kernel
theorem d_Mod_writeAll_120 : decode b_Mod_writeAll 120 = .ok (.iadd, 1) := by decide +kernel
theorem d_Mod_writeAll_121 : decode b_Mod_writeAll 121 = .ok (.aload_n 0, 1) := by decide +kernel
theorem d_Mod_writeAll_122 : decode b_Mod_writeAll 122 = .ok (.getfield 78, 3) := by decide +kernel
theorem d_Mod_writeAll_125 : decode b_Mod_writeAll 125 = .ok (.iload 5, 2) := by decide +kernel
theorem d_Mod_writeAll_127 : decode b_Mod_writeAll 127 = .ok (.iaload, 1) := by decide +kernel
theorem d_Mod_writeAll_128 : decode b_Mod_writeAll 128 = .ok (.iastore, 1) := by decide +kernel
theorem d_Mod_writeAll_129 : decode b_Mod_writeAll 129 = .ok (.iinc 5 1, 3) := by decide +kernel
theorem d_Mod_writeAll_132 : decode b_Mod_writeAll 132 = .ok (.goto (-32), 3) := by decide +kernel
theorem d_Mod_writeAll_135 : decode b_Mod_writeAll 135 = .ok (.aload_n 0, 1) := by decide +kernel
theorem d_Mod_writeAll_136 : decode b_Mod_writeAll 136 = .ok (.getfield 68, 3) := by decide +kernel
theorem d_Mod_writeAll_139 : decode b_Mod_writeAll 139 = .ok (.aload_n 0, 1) := by decide +kernel
theorem d_Mod_writeAll_140 : decode b_Mod_writeAll 140 = .ok (.getfield 160, 3) := by decide +kernel
theorem d_Mod_writeAll_143 : decode b_Mod_writeAll 143 = .ok (.iload 4, 2) := by decide +kernel
theorem d_Mod_writeAll_145 : decode b_Mod_writeAll 145 = .ok (.aload_n 0, 1) := by decide +kernel
theorem d_Mod_writeAll_146 : decode b_Mod_writeAll 146 = .ok (.getfield 28, 3) := by decide +kernel
theorem d_Mod_writeAll_149 : decode b_Mod_writeAll 149 = .ok (.iload 4, 2) := by decide +kernel
theorem d_Mod_writeAll_151 : decode b_Mod_writeAll 151 = .ok (.iaload, 1) := by decide +kernel
theorem d_Mod_writeAll_152 : decode b_Mod_writeAll 152 = .ok (.iadd, 1) := by decide +kernel
theorem d_Mod_writeAll_153 : decode b_Mod_writeAll 153 = .ok (.iastore, 1) := by decide +kernel
theorem d_Mod_writeAll_154 : decode b_Mod_writeAll 154 = .ok (.aload_n 0, 1) := by decide +kernel
theorem d_Mod_writeAll_155 : decode b_Mod_writeAll 155 = .ok (.dup, 1) := by decide +kernel
theorem d_Mod_writeAll_156 : decode b_Mod_writeAll 156 = .ok (.getfield 160, 3) := by decide +kernel
theorem d_Mod_writeAll_159 : decode b_Mod_writeAll 159 = .ok (.iconst 1, 1) := by decide +kernel
theorem d_Mod_writeAll_160 : decode b_Mod_writeAll 160 = .ok (.iadd, 1) := by decide +kernel
theorem d_Mod_writeAll_161 : decode b_Mod_writeAll 161 = .ok (.putfield 160, 3) := by decide +kernel
theorem d_Mod_writeAll_164 : decode b_Mod_writeAll 164 = .ok (.aload_n 0, 1) := by decide +kernel
theorem d_Mod_writeAll_165 : decode b_Mod_writeAll 165 = .ok (.aload_n 0, 1) := by decide +kernel
theorem d_Mod_writeAll_166 : decode b_Mod_writeAll 166 = .ok (.getfield 160, 3) := by decide +kernel
theorem d_Mod_writeAll_169 : decode b_Mod_writeAll 169 = .ok (.aload_n 0, 1) := by decide +kernel
theorem d_Mod_writeAll_170 : decode b_Mod_writeAll 170 = .ok (.getfield 191, 3) := by decide +kernel
theorem d_Mod_writeAll_173 : decode b_Mod_writeAll 173 = .ok (.if_icmp .le 10, 3) := by decide +kernel
theorem d_Mod_writeAll_176 : decode b_Mod_writeAll 176 = .ok (.aload_n 0, 1) := by decide +kernel
theorem d_Mod_writeAll_177 : decode b_Mod_writeAll 177 = .ok (.getfield 160, 3) := by decide +kernel
theorem d_Mod_writeAll_180 : decode b_Mod_writeAll 180 = .ok (.goto 7, 3) := by decide +kernel
theorem d_Mod_writeAll_183 : decode b_Mod_writeAll 183 = .ok (.aload_n 0, 1) := by decide +kernel
theorem d_Mod_writeAll_184 : decode b_Mod_writeAll 184 = .ok (.getfield 191, 3) := by decide +kernel
theorem d_Mod_writeAll_187 : decode b_Mod_writeAll 187 = .ok (.putfield 191, 3) := by decide +kernel
theorem d_Mod_writeAll_190 : decode b_Mod_writeAll 190 = .ok (.aload_n 0, 1) := by decide +kernel
theorem d_Mod_writeAll_191 : decode b_Mod_writeAll 191 = .ok (.sipush 141, 3) := by decide +kernel
theorem d_Mod_writeAll_194 : decode b_Mod_writeAll 194 = .ok (.iconst 1, 1) := by decide +kernel
theorem d_Mod_writeAll_195 : decode b_Mod_writeAll 195 = .ok (.invokevirtual 149, 3) := by decide +kernel
theorem d_Mod_writeAll_198 : decode b_Mod_writeAll 198 = .ok (.goto 106, 3) := by decide +kernel
theorem d_Mod_writeAll_201 : decode b_Mod_writeAll 201 = .ok (.aload_n 0, 1) := by decide +kernel
theorem d_Mod_writeAll_202 : decode b_Mod_writeAll 202 = .ok (.getfield 7, 3) := by decide +kernel
theorem d_Mod_writeAll_205 : decode b_Mod_writeAll 205 = .ok (.iload 4, 2) := by decide +kernel
theorem d_Mod_writeAll_207 : decode b_Mod_writeAll 207 = .ok (.iaload, 1) := by decide +kernel
theorem d_Mod_writeAll_208 : decode b_Mod_writeAll 208 = .ok (.iconst 1, 1) := by decide +kernel
theorem d_Mod_writeAll_209 : decode b_Mod_writeAll 209 = .ok (.if_icmp .ne 70, 3) := by decide +kernel
theorem d_Mod_writeAll_212 : decode b_Mod_writeAll 212 = .ok (.aload_n 0, 1) := by decide +kernel
theorem d_Mod_writeAll_213 : decode b_Mod_writeAll 213 = .ok (.aload_n 0, 1) := by decide +kernel
theorem d_Mod_writeAll_214 : decode b_Mod_writeAll 214 = .ok (.getfield 62, 3) := by decide +kernel
theorem d_Mod_writeAll_217 : decode b_Mod_writeAll 217 = .ok (.iload 4, 2) := by decide +kernel
theorem d_Mod_writeAll_219 : decode b_Mod_writeAll 219 = .ok (.iload_n 1, 1) := by decide +kernel
theorem d_Mod_writeAll_220 : decode b_Mod_writeAll 220 = .ok (.isub, 1) := by decide +kernel
theorem d_Mod_writeAll_221 : decode b_Mod_writeAll 221 = .ok (.iaload, 1) := by decide +kernel
theorem d_Mod_writeAll_222 : decode b_Mod_writeAll 222 = .ok (.aload_n 0, 1) := by decide +kernel
theorem d_Mod_writeAll_223 : decode b_Mod_writeAll 223 = .ok (.getfield 65, 3) := by decide +kernel
theorem d_Mod_writeAll_226 : decode b_Mod_writeAll 226 = .ok (.iload 4, 2) := by decide +kernel
theorem d_Mod_writeAll_228 : decode b_Mod_writeAll 228 = .ok (.iload_n 1, 1) := by decide +kernel
theorem d_Mod_writeAll_229 : decode b_Mod_writeAll 229 = .ok (.isub, 1) := by decide +kernel
theorem d_Mod_writeAll_230 : decode b_Mod_writeAll 230 = .ok (.iaload, 1) := by decide +kernel
theorem d_Mod_writeAll_231 : decode b_Mod_writeAll 231 = .ok (.invokevirtual 185, 3) := by decide +kernel
theorem d_Mod_writeAll_234 : decode b_Mod_writeAll 234 = .ok (.aload_n 0, 1) := by decide +kernel
theorem d_Mod_writeAll_235 : decode b_Mod_writeAll 235 = .ok (.iload 4, 2) := by decide +kernel
theorem d_Mod_writeAll_237 : decode b_Mod_writeAll 237 = .ok (.invokevirtual 194, 3) := by decide +kernel
theorem d_Mod_writeAll_240 : decode b_Mod_writeAll 240 = .ok (.aload_n 0, 1) := by decide +kernel
theorem d_Mod_writeAll_241 : decode b_Mod_writeAll 241 = .ok (.aload_n 0, 1) := by decide +kernel
theorem d_Mod_writeAll_242 : decode b_Mod_writeAll 242 = .ok (.getfield 78, 3) := by decide +kernel
theorem d_Mod_writeAll_245 : decode b_Mod_writeAll 245 = .ok (.iconst 0, 1) := by decide +kernel
theorem d_Mod_writeAll_246 : decode b_Mod_writeAll 246 = .ok (.iaload, 1) := by decide +kernel
theorem d_Mod_writeAll_247 : decode b_Mod_writeAll 247 = .ok (.i2l, 1) := by decide +kernel
theorem d_Mod_writeAll_248 : decode b_Mod_writeAll 248 = .ok (.aload_n 0, 1) := by decide +kernel
theorem d_Mod_writeAll_249 : decode b_Mod_writeAll 249 = .ok (.getfield 13, 3) := by decide +kernel
theorem d_Mod_writeAll_252 : decode b_Mod_writeAll 252 = .ok (.iload 4, 2) := by decide +kernel
theorem d_Mod_writeAll_254 : decode b_Mod_writeAll 254 = .ok (.iaload, 1) := by decide +kernel
theorem d_Mod_writeAll_255 : decode b_Mod_writeAll 255 = .ok (.i2l, 1) := by decide +kernel
theorem d_Mod_writeAll_256 : decode b_Mod_writeAll 256 = .ok (.ladd, 1) := by decide +kernel
theorem d_Mod_writeAll_257 : decode b_Mod_writeAll 257 = .ok (.invokevirtual 163, 3) := by decide +kernel
theorem d_Mod_writeAll_260 : decode b_Mod_writeAll 260 = .ok (.aload_n 0, 1) := by decide +kernel
theorem d_Mod_writeAll_261 : decode b_Mod_writeAll 261 = .ok (.getfield 78, 3) := by decide +kernel
theorem d_Mod_writeAll_264 : decode b_Mod_writeAll 264 = .ok (.iconst 0, 1) := by decide +kernel
theorem d_Mod_writeAll_265 : decode b_Mod_writeAll 265 = .ok (.dup2, 1) := by decide +kernel
theorem d_Mod_writeAll_266 : decode b_Mod_writeAll 266 = .ok (.iaload, 1) := by decide +kernel
theorem d_Mod_writeAll_267 : decode b_Mod_writeAll 267 = .ok (.aload_n 0, 1) := by decide +kernel
theorem d_Mod_writeAll_268 : decode b_Mod_writeAll 268 = .ok (.getfield 13, 3) := by decide +kernel
theorem d_Mod_writeAll_271 : decode b_Mod_writeAll 271 = .ok (.iload 4, 2) := by decide +kernel
theorem d_Mod_writeAll_273 : decode b_Mod_writeAll 273 = .ok (.iaload, 1) := by decide +kernel
theorem d_Mod_writeAll_274 : decode b_Mod_writeAll 274 = .ok (.iadd, 1) := by decide +kernel
theorem d_Mod_writeAll_275 : decode b_Mod_writeAll 275 = .ok (.iastore, 1) := by decide +kernel
theorem d_Mod_writeAll_276 : decode b_Mod_writeAll 276 = .ok (.goto 28, 3) := by decide +kernel
theorem d_Mod_writeAll_279 : decode b_Mod_writeAll 279 = .ok (.aload_n 0, 1) := by decide +kernel
theorem d_Mod_writeAll_280 : decode b_Mod_writeAll 280 = .ok (.getfield 7, 3) := by decide +kernel
theorem d_Mod_writeAll_283 : decode b_Mod_writeAll 283 = .ok (.iload 4, 2) := by decide +kernel
theorem d_Mod_writeAll_285 : decode b_Mod_writeAll 285 = .ok (.iaload, 1) := by decide +kernel
theorem d_Mod_writeAll_286 : decode b_Mod_writeAll 286 = .ok (.iconst 2, 1) := by decide +kernel
theorem d_Mod_writeAll_287 : decode b_Mod_writeAll 287 = .ok (.if_icmp .ne 17, 3) := by decide +kernel
theorem d_Mod_writeAll_290 : decode b_Mod_writeAll 290 = .ok (.aload_n 0, 1) := by decide +kernel
theorem d_Mod_writeAll_291 : decode b_Mod_writeAll 291 = .ok (.iload 4, 2) := by decide +kernel
theorem d_Mod_writeAll_293 : decode b_Mod_writeAll 293 = .ok (.aload_n 0, 1) := by decide +kernel
theorem d_Mod_writeAll_294 : decode b_Mod_writeAll 294 = .ok (.iload 4, 2) := by decide +kernel
theorem d_Mod_writeAll_296 : decode b_Mod_writeAll 296 = .ok (.iload_n 1, 1) := by decide +kernel
theorem d_Mod_writeAll_297 : decode b_Mod_writeAll 297 = .ok (.invokevirtual 197, 3) := by decide +kernel
theorem d_Mod_writeAll_300 : decode b_Mod_writeAll 300 = .ok (.iload_n 1, 1) := by decide +kernel
theorem d_Mod_writeAll_301 : decode b_Mod_writeAll 301 = .ok (.invokevirtual 200, 3) := by decide +kernel
theorem d_Mod_writeAll_304 : decode b_Mod_writeAll 304 = .ok (.iinc 4 1, 3) := by decide +kernel
theorem d_Mod_writeAll_307 : decode b_Mod_writeAll 307 = .ok (.goto (-297), 3) := by decide +kernel
theorem d_Mod_writeAll_310 : decode b_Mod_writeAll 310 = .ok (.aload_n 0, 1) := by decide +kernel
theorem d_Mod_writeAll_311 : decode b_Mod_writeAll 311 = .ok (.getfield 160, 3) := by decide +kernel
theorem d_Mod_writeAll_314 : decode b_Mod_writeAll 314 = .ok (.ifCond .le 17, 3) := by decide +kernel
theorem d_Mod_writeAll_317 : decode b_Mod_writeAll 317 = .ok (.aload_n 0, 1) := by decide +kernel
theorem d_Mod_writeAll_318 : decode b_Mod_writeAll 318 = .ok (.getfield 156, 3) := by decide +kernel
theorem d_Mod_writeAll_321 : decode b_Mod_writeAll 321 = .ok (.ifCond .eq 10, 3) := by decide +kernel
theorem d_Mod_writeAll_324 : decode b_Mod_writeAll 324 = .ok (.aload_n 0, 1) := by decide +kernel
theorem d_Mod_writeAll_325 : decode b_Mod_writeAll 325 = .ok (.invokevirtual 188, 3) := by decide +kernel
theorem d_Mod_writeAll_328 : decode b_Mod_writeAll 328 = .ok (.goto (-18), 3) := by decide +kernel
theorem d_Mod_writeAll_331 : decode b_Mod_writeAll 331 = .ok (.return_, 1) := by decide +kernel
theorem d_Mod_boxOf_0 : decode b_Mod_boxOf 0 = .ok (.iload_n 2, 1) := by decide +kernel
theorem d_Mod_boxOf_1 : decode b_Mod_boxOf 1 = .ok (.istore_n 3, 1) := by decide +kernel
theorem d_Mod_boxOf_2 : decode b_Mod_boxOf 2 = .ok (.iload_n 2, 1) := by decide +kernel
theorem d_Mod_boxOf_3 : decode b_Mod_boxOf 3 = .ok (.istore 4, 2) := by decide +kernel
theorem d_Mod_boxOf_5 : decode b_Mod_boxOf 5 = .ok (.iload 4, 2) := by decide +kernel
theorem d_Mod_boxOf_7 : decode b_Mod_boxOf 7 = .ok (.iload_n 1, 1) := by decide +kernel
theorem d_Mod_boxOf_8 : decode b_Mod_boxOf 8 = .ok (.if_icmp .ge 39, 3) := by decide +kernel
theorem d_Mod_boxOf_11 : decode b_Mod_boxOf 11 = .ok (.aload_n 0, 1) := by decide +kernel
theorem d_Mod_boxOf_12 : decode b_Mod_boxOf 12 = .ok (.iload 4, 2) := by decide +kernel
theorem d_Mod_boxOf_14 : decode b_Mod_boxOf 14 = .ok (.invokevirtual 116, 3) := by decide +kernel
theorem d_Mod_boxOf_17 : decode b_Mod_boxOf 17 = .ok (.ifCond .eq 22, 3) := by decide +kernel
theorem d_Mod_boxOf_20 : decode b_Mod_boxOf 20 = .ok (.iload 4, 2) := by decide +kernel
theorem d_Mod_boxOf_22 : decode b_Mod_boxOf 22 = .ok (.aload_n 0, 1) := by decide +kernel
theorem d_Mod_boxOf_23 : decode b_Mod_boxOf 23 = .ok (.getfield 28, 3) := by decide +kernel
theorem d_Mod_boxOf_26 : decode b_Mod_boxOf 26 = .ok (.iload 4, 2) := by decide +kernel
theorem d_Mod_boxOf_28 : decode b_Mod_boxOf 28 = .ok (.iaload, 1) := by decide +kernel
theorem d_Mod_boxOf_29 : decode b_Mod_boxOf 29 = .ok (.iadd, 1) := by decide +kernel
theorem d_Mod_boxOf_30 : decode b_Mod_boxOf 30 = .ok (.iload_n 1, 1) := by decide +kernel
theorem d_Mod_boxOf_31 : decode b_Mod_boxOf 31 = .ok (.if_icmp .le 8, 3) := by decide +kernel
theorem d_Mod_boxOf_34 : decode b_Mod_boxOf 34 = .ok (.iload 4, 2) := by decide +kernel
theorem d_Mod_boxOf_36 : decode b_Mod_boxOf 36 = .ok (.goto 4, 3) := by decide +kernel
theorem d_Mod_boxOf_39 : decode b_Mod_boxOf 39 = .ok (.iload_n 3, 1) := by decide +kernel
theorem d_Mod_boxOf_40 : decode b_Mod_boxOf 40 = .ok (.istore_n 3, 1) := by decide +kernel
theorem d_Mod_boxOf_41 : decode b_Mod_boxOf 41 = .ok (.iinc 4 1, 3) := by decide +kernel
theorem d_Mod_boxOf_44 : decode b_Mod_boxOf 44 = .ok (.goto (-39), 3) := by decide +kernel
theorem d_Mod_boxOf_47 : decode b_Mod_boxOf 47 = .ok (.iload_n 3, 1) := by decide +kernel
theorem d_Mod_boxOf_48 : decode b_Mod_boxOf 48 = .ok (.ireturn, 1) := by decide +kernel
theorem d_Mod_ship_0 : decode b_Mod_ship 0 = .ok (.aload_n 0, 1) := by decide +kernel
theorem d_Mod_ship_1 : decode b_Mod_ship 1 = .ok (.aload_n 0, 1) := by decide +kernel
theorem d_Mod_ship_2 : decode b_Mod_ship 2 = .ok (.getfield 204, 3) := by decide +kernel
theorem d_Mod_ship_5 : decode b_Mod_ship 5 = .ok (.ifCond .ne 11, 3) := by decide +kernel
theorem d_Mod_ship_8 : decode b_Mod_ship 8 = .ok (.aload_n 0, 1) := by decide +kernel
theorem d_Mod_ship_9 : decode b_Mod_ship 9 = .ok (.iload_n 1, 1) := by decide +kernel
theorem d_Mod_ship_10 : decode b_Mod_ship 10 = .ok (.invokevirtual 142, 3) := by decide +kernel
theorem d_Mod_ship_13 : decode b_Mod_ship 13 = .ok (.ifCond .ne 7, 3) := by decide +kernel
theorem d_Mod_ship_16 : decode b_Mod_ship 16 = .ok (.iconst 1, 1) := by decide +kernel
theorem d_Mod_ship_17 : decode b_Mod_ship 17 = .ok (.goto 17, 3) := by decide +kernel
theorem d_Mod_ship_20 : decode b_Mod_ship 20 = .ok (.aload_n 0, 1) := by decide +kernel
theorem d_Mod_ship_21 : decode b_Mod_ship 21 = .ok (.getfield 145, 3) := by decide +kernel
theorem d_Mod_ship_24 : decode b_Mod_ship 24 = .ok (.ldc 207, 2) := by decide +kernel
theorem d_Mod_ship_26 : decode b_Mod_ship 26 = .ok (.if_icmp .lt 7, 3) := by decide +kernel
theorem d_Mod_ship_29 : decode b_Mod_ship 29 = .ok (.iconst 2, 1) := by decide +kernel
theorem d_Mod_ship_30 : decode b_Mod_ship 30 = .ok (.goto 4, 3) := by decide +kernel
theorem d_Mod_ship_33 : decode b_Mod_ship 33 = .ok (.iconst 0, 1) := by decide +kernel
theorem d_Mod_ship_34 : decode b_Mod_ship 34 = .ok (.putfield 81, 3) := by decide +kernel
theorem d_Mod_ship_37 : decode b_Mod_ship 37 = .ok (.aload_n 0, 1) := by decide +kernel
theorem d_Mod_ship_38 : decode b_Mod_ship 38 = .ok (.getfield 81, 3) := by decide +kernel
theorem d_Mod_ship_41 : decode b_Mod_ship 41 = .ok (.ifCond .le 5, 3) := by decide +kernel
theorem d_Mod_ship_44 : decode b_Mod_ship 44 = .ok (.iconst 0, 1) := by decide +kernel
theorem d_Mod_ship_45 : decode b_Mod_ship 45 = .ok (.ireturn, 1) := by decide +kernel
theorem d_Mod_ship_46 : decode b_Mod_ship 46 = .ok (.aload_n 0, 1) := by decide +kernel
theorem d_Mod_ship_47 : decode b_Mod_ship 47 = .ok (.getfield 145, 3) := by decide +kernel
theorem d_Mod_ship_50 : decode b_Mod_ship 50 = .ok (.istore_n 2, 1) := by decide +kernel
theorem d_Mod_ship_51 : decode b_Mod_ship 51 = .ok (.aload_n 0, 1) := by decide +kernel
theorem d_Mod_ship_52 : decode b_Mod_ship 52 = .ok (.getfield 191, 3) := by decide +kernel
theorem d_Mod_ship_55 : decode b_Mod_ship 55 = .ok (.istore_n 3, 1) := by decide +kernel
theorem d_Mod_ship_56 : decode b_Mod_ship 56 = .ok (.iconst 0, 1) := by decide +kernel
theorem d_Mod_ship_57 : decode b_Mod_ship 57 = .ok (.istore 4, 2) := by decide +kernel
theorem d_Mod_ship_59 : decode b_Mod_ship 59 = .ok (.iload 4, 2) := by decide +kernel
theorem d_Mod_ship_61 : decode b_Mod_ship 61 = .ok (.bipush 32, 2) := by decide +kernel
theorem d_Mod_ship_63 : decode b_Mod_ship 63 = .ok (.if_icmp .ge 23, 3) := by decide +kernel
theorem d_Mod_ship_66 : decode b_Mod_ship 66 = .ok (.aload_n 0, 1) := by decide +kernel
theorem d_Mod_ship_67 : decode b_Mod_ship 67 = .ok (.getfield 50, 3) := by decide +kernel
theorem d_Mod_ship_70 : decode b_Mod_ship 70 = .ok (.iload 4, 2) := by decide +kernel
theorem d_Mod_ship_72 : decode b_Mod_ship 72 = .ok (.aload_n 0, 1) := by decide +kernel
theorem d_Mod_ship_73 : decode b_Mod_ship 73 = .ok (.getfield 47, 3) := by decide +kernel
theorem d_Mod_ship_76 : decode b_Mod_ship 76 = .ok (.iload 4, 2) := by decide +kernel
theorem d_Mod_ship_78 : decode b_Mod_ship 78 = .ok (.baload, 1) := by decide +kernel
theorem d_Mod_ship_79 : decode b_Mod_ship 79 = .ok (.bastore, 1) := by decide +kernel
theorem d_Mod_ship_80 : decode b_Mod_ship 80 = .ok (.iinc 4 1, 3) := by decide +kernel
theorem d_Mod_ship_83 : decode b_Mod_ship 83 = .ok (.goto (-24), 3) := by decide +kernel
theorem d_Mod_ship_86 : decode b_Mod_ship 86 = .ok (.aload_n 0, 1) := by decide +kernel
theorem d_Mod_ship_87 : decode b_Mod_ship 87 = .ok (.iload_n 1, 1) := by decide +kernel
theorem d_Mod_ship_88 : decode b_Mod_ship 88 = .ok (.invokevirtual 119, 3) := by decide +kernel
theorem d_Mod_ship_91 : decode b_Mod_ship 91 = .ok (.istore 4, 2) := by decide +kernel
theorem d_Mod_ship_93 : decode b_Mod_ship 93 = .ok (.aload_n 0, 1) := by decide +kernel
theorem d_Mod_ship_94 : decode b_Mod_ship 94 = .ok (.getfield 38, 3) := by decide +kernel
theorem d_Mod_ship_97 : decode b_Mod_ship 97 = .ok (.iload_n 1, 1) := by decide +kernel
theorem d_Mod_ship_98 : decode b_Mod_ship 98 = .ok (.iaload, 1) := by decide +kernel
theorem d_Mod_ship_99 : decode b_Mod_ship 99 = .ok (.istore 5, 2) := by decide +kernel
theorem d_Mod_ship_101 : decode b_Mod_ship 101 = .ok (.aload_n 0, 1) := by decide +kernel
theorem d_Mod_ship_102 : decode b_Mod_ship 102 = .ok (.iconst 1, 1) := by decide +kernel
theorem d_Mod_ship_103 : decode b_Mod_ship 103 = .ok (.putfield 156, 3) := by decide +kernel
theorem d_Mod_ship_106 : decode b_Mod_ship 106 = .ok (.aload_n 0, 1) := by decide +kernel
theorem d_Mod_ship_107 : decode b_Mod_ship 107 = .ok (.iload 4, 2) := by decide +kernel
theorem d_Mod_ship_109 : decode b_Mod_ship 109 = .ok (.iload 5, 2) := by decide +kernel
theorem d_Mod_ship_111 : decode b_Mod_ship 111 = .ok (.invokevirtual 208, 3) := by decide +kernel
theorem d_Mod_ship_114 : decode b_Mod_ship 114 = .ok (.aload_n 0, 1) := by decide +kernel
theorem d_Mod_ship_115 : decode b_Mod_ship 115 = .ok (.invokevirtual 211, 3) := by decide +kernel
theorem d_Mod_ship_118 : decode b_Mod_ship 118 = .ok (.aload_n 0, 1) := by decide +kernel
theorem d_Mod_ship_119 : decode b_Mod_ship 119 = .ok (.getfield 145, 3) := by decide +kernel
theorem d_Mod_ship_122 : decode b_Mod_ship 122 = .ok (.istore 6, 2) := by decide +kernel
theorem d_Mod_ship_124 : decode b_Mod_ship 124 = .ok (.aload_n 0, 1) := by decide +kernel
theorem d_Mod_ship_125 : decode b_Mod_ship 125 = .ok (.sipush 139, 3) := by decide +kernel
theorem d_Mod_ship_128 : decode b_Mod_ship 128 = .ok (.iconst 1, 1) := by decide +kernel
theorem d_Mod_ship_129 : decode b_Mod_ship 129 = .ok (.invokevirtual 149, 3) := by decide +kernel
theorem d_Mod_ship_132 : decode b_Mod_ship 132 = .ok (.aload_n 0, 1) := by decide +kernel
theorem d_Mod_ship_133 : decode b_Mod_ship 133 = .ok (.aload_n 0, 1) := by decide +kernel
theorem d_Mod_ship_134 : decode b_Mod_ship 134 = .ok (.getfield 214, 3) := by decide +kernel
theorem d_Mod_ship_137 : decode b_Mod_ship 137 = .ok (.iconst 1, 1) := by decide +kernel
theorem d_Mod_ship_138 : decode b_Mod_ship 138 = .ok (.iadd, 1) := by decide +kernel
theorem d_Mod_ship_139 : decode b_Mod_ship 139 = .ok (.iconst 4, 1) := by decide +kernel
theorem d_Mod_ship_140 : decode b_Mod_ship 140 = .ok (.invokevirtual 149, 3) := by decide +kernel
theorem d_Mod_ship_143 : decode b_Mod_ship 143 = .ok (.iconst 0, 1) := by decide +kernel
theorem d_Mod_ship_144 : decode b_Mod_ship 144 = .ok (.istore 7, 2) := by decide +kernel
theorem d_Mod_ship_146 : decode b_Mod_ship 146 = .ok (.iload 7, 2) := by decide +kernel
theorem d_Mod_ship_148 : decode b_Mod_ship 148 = .ok (.bipush 9, 2) := by decide +kernel
theorem d_Mod_ship_150 : decode b_Mod_ship 150 = .ok (.if_icmp .ge 15, 3) := by decide +kernel
theorem d_Mod_ship_153 : decode b_Mod_ship 153 = .ok (.aload_n 0, 1) := by decide +kernel
theorem d_Mod_ship_154 : decode b_Mod_ship 154 = .ok (.iconst 0, 1) := by decide +kernel
theorem d_Mod_ship_155 : decode b_Mod_ship 155 = .ok (.iconst 4, 1) := by decide +kernel
theorem d_Mod_ship_156 : decode b_Mod_ship 156 = .ok (.invokevirtual 149, 3) := by decide +kernel
theorem d_Mod_ship_159 : decode b_Mod_ship 159 = .ok (.iinc 7 1, 3) := by decide +kernel
theorem d_Mod_ship_162 : decode b_Mod_ship 162 = .ok (.goto (-16), 3) := by decide +kernel
theorem d_Mod_ship_165 : decode b_Mod_ship 165 = .ok (.aload_n 0, 1) := by decide +kernel
theorem d_Mod_ship_166 : decode b_Mod_ship 166 = .ok (.aload_n 0, 1) := by decide +kernel
theorem d_Mod_ship_167 : decode b_Mod_ship 167 = .ok (.getfield 58, 3) := by decide +kernel
theorem d_Mod_ship_170 : decode b_Mod_ship 170 = .ok (.iconst 4, 1) := by decide +kernel
theorem d_Mod_ship_171 : decode b_Mod_ship 171 = .ok (.invokevirtual 149, 3) := by decide +kernel
theorem d_Mod_ship_174 : decode b_Mod_ship 174 = .ok (.iconst 0, 1) := by decide +kernel
theorem d_Mod_ship_175 : decode b_Mod_ship 175 = .ok (.istore 7, 2) := by decide +kernel
theorem d_Mod_ship_177 : decode b_Mod_ship 177 = .ok (.iload 7, 2) := by decide +kernel
theorem d_Mod_ship_179 : decode b_Mod_ship 179 = .ok (.bipush 8, 2) := by decide +kernel
theorem d_Mod_ship_181 : decode b_Mod_ship 181 = .ok (.if_icmp .ge 17, 3) := by decide +kernel
theorem d_Mod_ship_184 : decode b_Mod_ship 184 = .ok (.aload_n 0, 1) := by decide +kernel
theorem d_Mod_ship_185 : decode b_Mod_ship 185 = .ok (.getfield 78, 3) := by decide +kernel
theorem d_Mod_ship_188 : decode b_Mod_ship 188 = .ok (.iload 7, 2) := by decide +kernel
theorem d_Mod_ship_190 : decode b_Mod_ship 190 = .ok (.iconst 0, 1) := by decide +kernel
theorem d_Mod_ship_191 : decode b_Mod_ship 191 = .ok (.iastore, 1) := by decide +kernel
theorem d_Mod_ship_192 : decode b_Mod_ship 192 = .ok (.iinc 7 1, 3) := by decide +kernel
theorem d_Mod_ship_195 : decode b_Mod_ship 195 = .ok (.goto (-18), 3) := by decide +kernel
theorem d_Mod_ship_198 : decode b_Mod_ship 198 = .ok (.aload_n 0, 1) := by decide +kernel
theorem d_Mod_ship_199 : decode b_Mod_ship 199 = .ok (.iconst (-1), 1) := by decide +kernel
theorem d_Mod_ship_200 : decode b_Mod_ship 200 = .ok (.putfield 182, 3) := by decide +kernel
theorem d_Mod_ship_203 : decode b_Mod_ship 203 = .ok (.aload_n 0, 1) := by decide +kernel
theorem d_Mod_ship_204 : decode b_Mod_ship 204 = .ok (.getfield 156, 3) := by decide +kernel
theorem d_Mod_ship_207 : decode b_Mod_ship 207 = .ok (.ifCond .eq 11, 3) := by decide +kernel
theorem d_Mod_ship_210 : decode b_Mod_ship 210 = .ok (.aload_n 0, 1) := by decide +kernel
theorem d_Mod_ship_211 : decode b_Mod_ship 211 = .ok (.iload 4, 2) := by decide +kernel
theorem d_Mod_ship_213 : decode b_Mod_ship 213 = .ok (.iload 5, 2) := by decide +kernel
theorem d_Mod_ship_215 : decode b_Mod_ship 215 = .ok (.invokevirtual 217, 3) := by decide +kernel
theorem d_Mod_ship_218 : decode b_Mod_ship 218 = .ok (.aload_n 0, 1) := by decide +kernel
theorem d_Mod_ship_219 : decode b_Mod_ship 219 = .ok (.sipush 140, 3) := by decide +kernel
theorem d_Mod_ship_222 : decode b_Mod_ship 222 = .ok (.iconst 1, 1) := by decide +kernel
theorem d_Mod_ship_223 : decode b_Mod_ship 223 = .ok (.invokevirtual 149, 3) := by decide +kernel
theorem d_Mod_ship_226 : decode b_Mod_ship 226 = .ok (.aload_n 0, 1) := by decide +kernel
theorem d_Mod_ship_227 : decode b_Mod_ship 227 = .ok (.getfield 156, 3) := by decide +kernel
theorem d_Mod_ship_230 : decode b_Mod_ship 230 = .ok (.ifCond .eq 96, 3) := by decide +kernel
theorem d_Mod_ship_233 : decode b_Mod_ship 233 = .ok (.aload_n 0, 1) := by decide +kernel
theorem d_Mod_ship_234 : decode b_Mod_ship 234 = .ok (.dup, 1) := by decide +kernel
theorem d_Mod_ship_235 : decode b_Mod_ship 235 = .ok (.getfield 214, 3) := by decide +kernel
theorem d_Mod_ship_238 : decode b_Mod_ship 238 = .ok (.iconst 1, 1) := by decide +kernel
theorem d_Mod_ship_239 : decode b_Mod_ship 239 = .ok (.iadd, 1) := by decide +kernel
theorem d_Mod_ship_240 : decode b_Mod_ship 240 = .ok (.putfield 214, 3) := by decide +kernel
theorem d_Mod_ship_243 : decode b_Mod_ship 243 = .ok (.aload_n 0, 1) := by decide +kernel
theorem d_Mod_ship_244 : decode b_Mod_ship 244 = .ok (.iload 6, 2) := by decide +kernel
theorem d_Mod_ship_246 : decode b_Mod_ship 246 = .ok (.putfield 58, 3) := by decide +kernel
theorem d_Mod_ship_249 : decode b_Mod_ship 249 = .ok (.aload_n 0, 1) := by decide +kernel
theorem d_Mod_ship_250 : decode b_Mod_ship 250 = .ok (.getfield 16, 3) := by decide +kernel
theorem d_Mod_ship_253 : decode b_Mod_ship 253 = .ok (.iload 4, 2) := by decide +kernel
theorem d_Mod_ship_255 : decode b_Mod_ship 255 = .ok (.iaload, 1) := by decide +kernel
theorem d_Mod_ship_256 : decode b_Mod_ship 256 = .ok (.i2l, 1) := by decide +kernel
theorem d_Mod_ship_257 : decode b_Mod_ship 257 = .ok (.aload_n 0, 1) := by decide +kernel
theorem d_Mod_ship_258 : decode b_Mod_ship 258 = .ok (.getfield 19, 3) := by decide +kernel
theorem d_Mod_ship_261 : decode b_Mod_ship 261 = .ok (.iload 4, 2) := by decide +kernel
theorem d_Mod_ship_263 : decode b_Mod_ship 263 = .ok (.iaload, 1) := by decide +kernel
theorem d_Mod_ship_264 : decode b_Mod_ship 264 = .ok (.i2l, 1) := by decide +kernel
theorem d_Mod_ship_265 : decode b_Mod_ship 265 = .ok (.ladd, 1) := by decide +kernel
theorem d_Mod_ship_266 : decode b_Mod_ship 266 = .ok (.lstore 7, 2) := by decide +kernel
theorem d_Mod_ship_268 : decode b_Mod_ship 268 = .ok (.aload_n 0, 1) := by decide +kernel
theorem d_Mod_ship_269 : decode b_Mod_ship 269 = .ok (.lload 7, 2) := by decide +kernel
theorem d_Mod_ship_271 : decode b_Mod_ship 271 = .ok (.aload_n 0, 1) := by decide +kernel
theorem d_Mod_ship_272 : decode b_Mod_ship 272 = .ok (.getfield 220, 3) := by decide +kernel
theorem d_Mod_ship_275 : decode b_Mod_ship 275 = .ok (.lcmp, 1) := by decide +kernel
theorem d_Mod_ship_276 : decode b_Mod_ship 276 = .ok (.ifCond .le 8, 3) := by decide +kernel
theorem d_Mod_ship_279 : decode b_Mod_ship 279 = .ok (.lload 7, 2) := by decide +kernel
theorem d_Mod_ship_281 : decode b_Mod_ship 281 = .ok (.goto 7, 3) := by decide +kernel
theorem d_Mod_ship_284 : decode b_Mod_ship 284 = .ok (.aload_n 0, 1) := by decide +kernel
theorem d_Mod_ship_285 : decode b_Mod_ship 285 = .ok (.getfield 220, 3) := by decide +kernel
theorem d_Mod_ship_288 : decode b_Mod_ship 288 = .ok (.putfield 220, 3) := by decide +kernel
theorem d_Mod_ship_291 : decode b_Mod_ship 291 = .ok (.aload_n 0, 1) := by decide +kernel
theorem d_Mod_ship_292 : decode b_Mod_ship 292 = .ok (.aload_n 0, 1) := by decide +kernel
theorem d_Mod_ship_293 : decode b_Mod_ship 293 = .ok (.getfield 13, 3) := by decide +kernel
theorem d_Mod_ship_296 : decode b_Mod_ship 296 = .ok (.iload 4, 2) := by decide +kernel
theorem d_Mod_ship_298 : decode b_Mod_ship 298 = .ok (.iaload, 1) := by decide +kernel
theorem d_Mod_ship_299 : decode b_Mod_ship 299 = .ok (.aload_n 0, 1) := by decide +kernel
theorem d_Mod_ship_300 : decode b_Mod_ship 300 = .ok (.getfield 224, 3) := by decide +kernel
theorem d_Mod_ship_303 : decode b_Mod_ship 303 = .ok (.if_icmp .le 13, 3) := by decide +kernel
theorem d_Mod_ship_306 : decode b_Mod_ship 306 = .ok (.aload_n 0, 1) := by decide +kernel
theorem d_Mod_ship_307 : decode b_Mod_ship 307 = .ok (.getfield 13, 3) := by decide +kernel
theorem d_Mod_ship_310 : decode b_Mod_ship 310 = .ok (.iload 4, 2) := by decide +kernel
theorem d_Mod_ship_312 : decode b_Mod_ship 312 = .ok (.iaload, 1) := by decide +kernel
theorem d_Mod_ship_313 : decode b_Mod_ship 313 = .ok (.goto 7, 3) := by decide +kernel
theorem d_Mod_ship_316 : decode b_Mod_ship 316 = .ok (.aload_n 0, 1) := by decide +kernel
theorem d_Mod_ship_317 : decode b_Mod_ship 317 = .ok (.getfield 224, 3) := by decide +kernel
theorem d_Mod_ship_320 : decode b_Mod_ship 320 = .ok (.putfield 224, 3) := by decide +kernel
theorem d_Mod_ship_323 : decode b_Mod_ship 323 = .ok (.goto 48, 3) := by decide +kernel
theorem d_Mod_ship_326 : decode b_Mod_ship 326 = .ok (.aload_n 0, 1) := by decide +kernel
theorem d_Mod_ship_327 : decode b_Mod_ship 327 = .ok (.iconst 2, 1) := by decide +kernel
theorem d_Mod_ship_328 : decode b_Mod_ship 328 = .ok (.putfield 81, 3) := by decide +kernel
theorem d_Mod_ship_331 : decode b_Mod_ship 331 = .ok (.aload_n 0, 1) := by decide +kernel
theorem d_Mod_ship_332 : decode b_Mod_ship 332 = .ok (.iload_n 2, 1) := by decide +kernel
theorem d_Mod_ship_333 : decode b_Mod_ship 333 = .ok (.putfield 145, 3) := by decide +kernel
theorem d_Mod_ship_336 : decode b_Mod_ship 336 = .ok (.aload_n 0, 1) := by decide +kernel
theorem d_Mod_ship_337 : decode b_Mod_ship 337 = .ok (.iload_n 3, 1) := by decide +kernel
theorem d_Mod_ship_338 : decode b_Mod_ship 338 = .ok (.putfield 191, 3) := by decide +kernel
theorem d_Mod_ship_341 : decode b_Mod_ship 341 = .ok (.iconst 0, 1) := by decide +kernel
theorem d_Mod_ship_342 : decode b_Mod_ship 342 = .ok (.istore 7, 2) := by decide +kernel
theorem d_Mod_ship_344 : decode b_Mod_ship 344 = .ok (.iload 7, 2) := by decide +kernel
theorem d_Mod_ship_346 : decode b_Mod_ship 346 = .ok (.bipush 32, 2) := by decide +kernel
theorem d_Mod_ship_348 : decode b_Mod_ship 348 = .ok (.if_icmp .ge 23, 3) := by decide +kernel
theorem d_Mod_ship_351 : decode b_Mod_ship 351 = .ok (.aload_n 0, 1) := by decide +kernel
theorem d_Mod_ship_352 : decode b_Mod_ship 352 = .ok (.getfield 47, 3) := by decide +kernel
theorem d_Mod_ship_355 : decode b_Mod_ship 355 = .ok (.iload 7, 2) := by decide +kernel
theorem d_Mod_ship_357 : decode b_Mod_ship 357 = .ok (.aload_n 0, 1) := by decide +kernel
theorem d_Mod_ship_358 : decode b_Mod_ship 358 = .ok (.getfield 50, 3) := by decide +kernel
theorem d_Mod_ship_361 : decode b_Mod_ship 361 = .ok (.iload 7, 2) := by decide +kernel
theorem d_Mod_ship_363 : decode b_Mod_ship 363 = .ok (.baload, 1) := by decide +kernel
theorem d_Mod_ship_364 : decode b_Mod_ship 364 = .ok (.bastore, 1) := by decide +kernel
theorem d_Mod_ship_365 : decode b_Mod_ship 365 = .ok (.iinc 7 1, 3) := by decide +kernel
theorem d_Mod_ship_368 : decode b_Mod_ship 368 = .ok (.goto (-24), 3) := by decide +kernel
theorem d_Mod_ship_371 : decode b_Mod_ship 371 = .ok (.aload_n 0, 1) := by decide +kernel
theorem d_Mod_ship_372 : decode b_Mod_ship 372 = .ok (.iload_n 1, 1) := by decide +kernel
theorem d_Mod_ship_373 : decode b_Mod_ship 373 = .ok (.invokevirtual 135, 3) := by decide +kernel
theorem d_Mod_ship_376 : decode b_Mod_ship 376 = .ok (.aload_n 0, 1) := by decide +kernel
theorem d_Mod_ship_377 : decode b_Mod_ship 377 = .ok (.getfield 81, 3) := by decide +kernel
theorem d_Mod_ship_380 : decode b_Mod_ship 380 = .ok (.ifCond .le 7, 3) := by decide +kernel
theorem d_Mod_ship_383 : decode b_Mod_ship 383 = .ok (.iconst 0, 1) := by decide +kernel
theorem d_Mod_ship_384 : decode b_Mod_ship 384 = .ok (.goto 7, 3) := by decide +kernel
theorem d_Mod_ship_387 : decode b_Mod_ship 387 = .ok (.aload_n 0, 1) := by decide +kernel
theorem d_Mod_ship_388 : decode b_Mod_ship 388 = .ok (.getfield 145, 3) := by decide +kernel
theorem d_Mod_ship_391 : decode b_Mod_ship 391 = .ok (.ireturn, 1) := by decide +kernel
theorem d_Mod_finish_0 : decode b_Mod_finish 0 = .ok (.aload_n 0, 1) := by decide +kernel
theorem d_Mod_finish_1 : decode b_Mod_finish 1 = .ok (.aload_n 0, 1) := by decide +kernel
theorem d_Mod_finish_2 : decode b_Mod_finish 2 = .ok (.getfield 204, 3) := by decide +kernel
theorem d_Mod_finish_5 : decode b_Mod_finish 5 = .ok (.ifCond .eq 7, 3) := by decide +kernel
theorem d_Mod_finish_8 : decode b_Mod_finish 8 = .ok (.iconst 1, 1) := by decide +kernel
theorem d_Mod_finish_9 : decode b_Mod_finish 9 = .ok (.goto 4, 3) := by decide +kernel
theorem d_Mod_finish_12 : decode b_Mod_finish 12 = .ok (.iconst 0, 1) := by decide +kernel
theorem d_Mod_finish_13 : decode b_Mod_finish 13 = .ok (.putfield 81, 3) := by decide +kernel
theorem d_Mod_finish_16 : decode b_Mod_finish 16 = .ok (.aload_n 0, 1) := by decide +kernel
theorem d_Mod_finish_17 : decode b_Mod_finish 17 = .ok (.getfield 204, 3) := by decide +kernel
theorem d_Mod_finish_20 : decode b_Mod_finish 20 = .ok (.ifCond .eq 5, 3) := by decide +kernel
theorem d_Mod_finish_23 : decode b_Mod_finish 23 = .ok (.iconst 0, 1) := by decide +kernel
theorem d_Mod_finish_24 : decode b_Mod_finish 24 = .ok (.ireturn, 1) := by decide +kernel
theorem d_Mod_finish_25 : decode b_Mod_finish 25 = .ok (.aload_n 0, 1) := by decide +kernel
theorem d_Mod_finish_26 : decode b_Mod_finish 26 = .ok (.invokevirtual 211, 3) := by decide +kernel
theorem d_Mod_finish_29 : decode b_Mod_finish 29 = .ok (.aload_n 0, 1) := by decide +kernel
theorem d_Mod_finish_30 : decode b_Mod_finish 30 = .ok (.getfield 145, 3) := by decide +kernel
theorem d_Mod_finish_33 : decode b_Mod_finish 33 = .ok (.istore_n 1, 1) := by decide +kernel
theorem d_Mod_finish_34 : decode b_Mod_finish 34 = .ok (.aload_n 0, 1) := by decide +kernel
theorem d_Mod_finish_35 : decode b_Mod_finish 35 = .ok (.sipush 248, 3) := by decide +kernel
theorem d_Mod_finish_38 : decode b_Mod_finish 38 = .ok (.iconst 1, 1) := by decide +kernel
theorem d_Mod_finish_39 : decode b_Mod_finish 39 = .ok (.invokevirtual 149, 3) := by decide +kernel
theorem d_Mod_finish_42 : decode b_Mod_finish 42 = .ok (.aload_n 0, 1) := by decide +kernel
theorem d_Mod_finish_43 : decode b_Mod_finish 43 = .ok (.aload_n 0, 1) := by decide +kernel
theorem d_Mod_finish_44 : decode b_Mod_finish 44 = .ok (.getfield 58, 3) := by decide +kernel
theorem d_Mod_finish_47 : decode b_Mod_finish 47 = .ok (.iconst 4, 1) := by decide +kernel
theorem d_Mod_finish_48 : decode b_Mod_finish 48 = .ok (.invokevirtual 149, 3) := by decide +kernel
theorem d_Mod_finish_51 : decode b_Mod_finish 51 = .ok (.aload_n 0, 1) := by decide +kernel
theorem d_Mod_finish_52 : decode b_Mod_finish 52 = .ok (.invokevirtual 153, 3) := by decide +kernel
theorem d_Mod_finish_55 : decode b_Mod_finish 55 = .ok (.aload_n 0, 1) := by decide +kernel
theorem d_Mod_finish_56 : decode b_Mod_finish 56 = .ok (.aload_n 0, 1) := by decide +kernel
theorem d_Mod_finish_57 : decode b_Mod_finish 57 = .ok (.getfield 220, 3) := by decide +kernel
theorem d_Mod_finish_60 : decode b_Mod_finish 60 = .ok (.l2i, 1) := by decide +kernel
theorem d_Mod_finish_61 : decode b_Mod_finish 61 = .ok (.iconst 4, 1) := by decide +kernel
theorem d_Mod_finish_62 : decode b_Mod_finish 62 = .ok (.invokevirtual 149, 3) := by decide +kernel
theorem d_Mod_finish_65 : decode b_Mod_finish 65 = .ok (.aload_n 0, 1) := by decide +kernel
theorem d_Mod_finish_66 : decode b_Mod_finish 66 = .ok (.aload_n 0, 1) := by decide +kernel
theorem d_Mod_finish_67 : decode b_Mod_finish 67 = .ok (.getfield 224, 3) := by decide +kernel
theorem d_Mod_finish_70 : decode b_Mod_finish 70 = .ok (.iconst 4, 1) := by decide +kernel
theorem d_Mod_finish_71 : decode b_Mod_finish 71 = .ok (.invokevirtual 149, 3) := by decide +kernel
theorem d_Mod_finish_74 : decode b_Mod_finish 74 = .ok (.aload_n 0, 1) := by decide +kernel
theorem d_Mod_finish_75 : decode b_Mod_finish 75 = .ok (.aload_n 0, 1) := by decide +kernel
theorem d_Mod_finish_76 : decode b_Mod_finish 76 = .ok (.getfield 191, 3) := by decide +kernel
theorem d_Mod_finish_79 : decode b_Mod_finish 79 = .ok (.iconst 2, 1) := by decide +kernel
theorem d_Mod_finish_80 : decode b_Mod_finish 80 = .ok (.invokevirtual 149, 3) := by decide +kernel
theorem d_Mod_finish_83 : decode b_Mod_finish 83 = .ok (.aload_n 0, 1) := by decide +kernel
theorem d_Mod_finish_84 : decode b_Mod_finish 84 = .ok (.aload_n 0, 1) := by decide +kernel
theorem d_Mod_finish_85 : decode b_Mod_finish 85 = .ok (.getfield 214, 3) := by decide +kernel
theorem d_Mod_finish_88 : decode b_Mod_finish 88 = .ok (.iconst 2, 1) := by decide +kernel
theorem d_Mod_finish_89 : decode b_Mod_finish 89 = .ok (.invokevirtual 149, 3) := by decide +kernel
theorem d_Mod_finish_92 : decode b_Mod_finish 92 = .ok (.bipush 31, 2) := by decide +kernel
theorem d_Mod_finish_94 : decode b_Mod_finish 94 = .ok (.istore_n 2, 1) := by decide +kernel
theorem d_Mod_finish_95 : decode b_Mod_finish 95 = .ok (.iload_n 2, 1) := by decide +kernel
theorem d_Mod_finish_96 : decode b_Mod_finish 96 = .ok (.ifCond .lt 23, 3) := by decide +kernel
theorem d_Mod_finish_99 : decode b_Mod_finish 99 = .ok (.aload_n 0, 1) := by decide +kernel
theorem d_Mod_finish_100 : decode b_Mod_finish 100 = .ok (.getfield 47, 3) := by decide +kernel
theorem d_Mod_finish_103 : decode b_Mod_finish 103 = .ok (.iload_n 2, 1) := by decide +kernel
theorem d_Mod_finish_104 : decode b_Mod_finish 104 = .ok (.baload, 1) := by decide +kernel
theorem d_Mod_finish_105 : decode b_Mod_finish 105 = .ok (.ifCond .eq 8, 3) := by decide +kernel
theorem d_Mod_finish_108 : decode b_Mod_finish 108 = .ok (.aload_n 0, 1) := by decide +kernel
theorem d_Mod_finish_109 : decode b_Mod_finish 109 = .ok (.iload_n 2, 1) := by decide +kernel
theorem d_Mod_finish_110 : decode b_Mod_finish 110 = .ok (.invokevirtual 179, 3) := by decide +kernel
theorem d_Mod_finish_113 : decode b_Mod_finish 113 = .ok (.iinc 2 (-1), 3) := by decide +kernel
theorem d_Mod_finish_116 : decode b_Mod_finish 116 = .ok (.goto (-21), 3) := by decide +kernel
theorem d_Mod_finish_119 : decode b_Mod_finish 119 = .ok (.aload_n 0, 1) := by decide +kernel
theorem d_Mod_finish_120 : decode b_Mod_finish 120 = .ok (.sipush 249, 3) := by decide +kernel
theorem d_Mod_finish_123 : decode b_Mod_finish 123 = .ok (.iconst 1, 1) := by decide +kernel
theorem d_Mod_finish_124 : decode b_Mod_finish 124 = .ok (.invokevirtual 149, 3) := by decide +kernel
theorem d_Mod_finish_127 : decode b_Mod_finish 127 = .ok (.aload_n 0, 1) := by decide +kernel
theorem d_Mod_finish_128 : decode b_Mod_finish 128 = .ok (.iload_n 1, 1) := by decide +kernel
theorem d_Mod_finish_129 : decode b_Mod_finish 129 = .ok (.iconst 4, 1) := by decide +kernel
theorem d_Mod_finish_130 : decode b_Mod_finish 130 = .ok (.invokevirtual 149, 3) := by decide +kernel
theorem d_Mod_finish_133 : decode b_Mod_finish 133 = .ok (.aload_n 0, 1) := by decide +kernel
theorem d_Mod_finish_134 : decode b_Mod_finish 134 = .ok (.iconst 2, 1) := by decide +kernel
theorem d_Mod_finish_135 : decode b_Mod_finish 135 = .ok (.iconst 1, 1) := by decide +kernel
theorem d_Mod_finish_136 : decode b_Mod_finish 136 = .ok (.invokevirtual 149, 3) := by decide +kernel
theorem d_Mod_finish_139 : decode b_Mod_finish 139 = .ok (.iconst 0, 1) := by decide +kernel
theorem d_Mod_finish_140 : decode b_Mod_finish 140 = .ok (.istore_n 2, 1) := by decide +kernel
theorem d_Mod_finish_141 : decode b_Mod_finish 141 = .ok (.iload_n 2, 1) := by decide +kernel
theorem d_Mod_finish_142 : decode b_Mod_finish 142 = .ok (.iconst 4, 1) := by decide +kernel
theorem d_Mod_finish_143 : decode b_Mod_finish 143 = .ok (.if_icmp .lt 12, 3) := by decide +kernel
theorem d_Mod_finish_146 : decode b_Mod_finish 146 = .ok (.aload_n 0, 1) := by decide +kernel
theorem d_Mod_finish_147 : decode b_Mod_finish 147 = .ok (.getfield 145, 3) := by decide +kernel
theorem d_Mod_finish_150 : decode b_Mod_finish 150 = .ok (.iconst 4, 1) := by decide +kernel
theorem d_Mod_finish_151 : decode b_Mod_finish 151 = .ok (.irem, 1) := by decide +kernel
theorem d_Mod_finish_152 : decode b_Mod_finish 152 = .ok (.ifCond .eq 17, 3) := by decide +kernel
theorem d_Mod_finish_155 : decode b_Mod_finish 155 = .ok (.aload_n 0, 1) := by decide +kernel
theorem d_Mod_finish_156 : decode b_Mod_finish 156 = .ok (.sipush 223, 3) := by decide +kernel
theorem d_Mod_finish_159 : decode b_Mod_finish 159 = .ok (.iconst 1, 1) := by decide +kernel
theorem d_Mod_finish_160 : decode b_Mod_finish 160 = .ok (.invokevirtual 149, 3) := by decide +kernel
theorem d_Mod_finish_163 : decode b_Mod_finish 163 = .ok (.iinc 2 1, 3) := by decide +kernel
theorem d_Mod_finish_166 : decode b_Mod_finish 166 = .ok (.goto (-25), 3) := by decide +kernel
theorem d_Mod_finish_169 : decode b_Mod_finish 169 = .ok (.aload_n 0, 1) := by decide +kernel
theorem d_Mod_finish_170 : decode b_Mod_finish 170 = .ok (.iconst 1, 1) := by decide +kernel
theorem d_Mod_finish_171 : decode b_Mod_finish 171 = .ok (.putfield 204, 3) := by decide +kernel
theorem d_Mod_finish_174 : decode b_Mod_finish 174 = .ok (.aload_n 0, 1) := by decide +kernel
theorem d_Mod_finish_175 : decode b_Mod_finish 175 = .ok (.getfield 145, 3) := by decide +kernel
theorem d_Mod_finish_178 : decode b_Mod_finish 178 = .ok (.ireturn, 1) := by decide +kernel
theorem d_Mod_byteAt_0 : decode b_Mod_byteAt 0 = .ok (.aload_n 0, 1) := by decide +kernel
theorem d_Mod_byteAt_1 : decode b_Mod_byteAt 1 = .ok (.iconst 0, 1) := by decide +kernel
theorem d_Mod_byteAt_2 : decode b_Mod_byteAt 2 = .ok (.putfield 81, 3) := by decide +kernel
theorem d_Mod_byteAt_5 : decode b_Mod_byteAt 5 = .ok (.iload_n 1, 1) := by decide +kernel
theorem d_Mod_byteAt_6 : decode b_Mod_byteAt 6 = .ok (.ifCond .lt 11, 3) := by decide +kernel
theorem d_Mod_byteAt_9 : decode b_Mod_byteAt 9 = .ok (.iload_n 1, 1) := by decide +kernel
theorem d_Mod_byteAt_10 : decode b_Mod_byteAt 10 = .ok (.aload_n 0, 1) := by decide +kernel
theorem d_Mod_byteAt_11 : decode b_Mod_byteAt 11 = .ok (.getfield 145, 3) := by decide +kernel
theorem d_Mod_byteAt_14 : decode b_Mod_byteAt 14 = .ok (.if_icmp .lt 7, 3) := by decide +kernel
theorem d_Mod_byteAt_17 : decode b_Mod_byteAt 17 = .ok (.iconst (-1), 1) := by decide +kernel
theorem d_Mod_byteAt_18 : decode b_Mod_byteAt 18 = .ok (.goto 13, 3) := by decide +kernel
theorem d_Mod_byteAt_21 : decode b_Mod_byteAt 21 = .ok (.aload_n 0, 1) := by decide +kernel
theorem d_Mod_byteAt_22 : decode b_Mod_byteAt 22 = .ok (.getfield 54, 3) := by decide +kernel
theorem d_Mod_byteAt_25 : decode b_Mod_byteAt 25 = .ok (.iload_n 1, 1) := by decide +kernel
theorem d_Mod_byteAt_26 : decode b_Mod_byteAt 26 = .ok (.baload, 1) := by decide +kernel
theorem d_Mod_byteAt_27 : decode b_Mod_byteAt 27 = .ok (.sipush 255, 3) := by decide +kernel
theorem d_Mod_byteAt_30 : decode b_Mod_byteAt 30 = .ok (.iand, 1) := by decide +kernel
theorem d_Mod_byteAt_31 : decode b_Mod_byteAt 31 = .ok (.ireturn, 1) := by decide +kernel
theorem d_Mod_count_0 : decode b_Mod_count 0 = .ok (.aload_n 0, 1) := by decide +kernel
theorem d_Mod_count_1 : decode b_Mod_count 1 = .ok (.iconst 0, 1) := by decide +kernel
theorem d_Mod_count_2 : decode b_Mod_count 2 = .ok (.putfield 81, 3) := by decide +kernel
theorem d_Mod_count_5 : decode b_Mod_count 5 = .ok (.iload_n 1, 1) := by decide +kernel
theorem d_Mod_count_6 : decode b_Mod_count 6 = .ok (.ifCond .ne 10, 3) := by decide +kernel
theorem d_Mod_count_9 : decode b_Mod_count 9 = .ok (.aload_n 0, 1) := by decide +kernel
theorem d_Mod_count_10 : decode b_Mod_count 10 = .ok (.getfield 145, 3) := by decide +kernel
theorem d_Mod_count_13 : decode b_Mod_count 13 = .ok (.goto 65, 3) := by decide +kernel
theorem d_Mod_count_16 : decode b_Mod_count 16 = .ok (.iload_n 1, 1) := by decide +kernel
theorem d_Mod_count_17 : decode b_Mod_count 17 = .ok (.iconst 1, 1) := by decide +kernel
theorem d_Mod_count_18 : decode b_Mod_count 18 = .ok (.if_icmp .ne 10, 3) := by decide +kernel
theorem d_Mod_count_21 : decode b_Mod_count 21 = .ok (.aload_n 0, 1) := by decide +kernel
theorem d_Mod_count_22 : decode b_Mod_count 22 = .ok (.getfield 214, 3) := by decide +kernel
theorem d_Mod_count_25 : decode b_Mod_count 25 = .ok (.goto 53, 3) := by decide +kernel
theorem d_Mod_count_28 : decode b_Mod_count 28 = .ok (.iload_n 1, 1) := by decide +kernel
theorem d_Mod_count_29 : decode b_Mod_count 29 = .ok (.iconst 2, 1) := by decide +kernel
theorem d_Mod_count_30 : decode b_Mod_count 30 = .ok (.if_icmp .ne 10, 3) := by decide +kernel
theorem d_Mod_count_33 : decode b_Mod_count 33 = .ok (.aload_n 0, 1) := by decide +kernel
theorem d_Mod_count_34 : decode b_Mod_count 34 = .ok (.getfield 97, 3) := by decide +kernel
theorem d_Mod_count_37 : decode b_Mod_count 37 = .ok (.goto 41, 3) := by decide +kernel
theorem d_Mod_count_40 : decode b_Mod_count 40 = .ok (.iload_n 1, 1) := by decide +kernel
theorem d_Mod_count_41 : decode b_Mod_count 41 = .ok (.iconst 3, 1) := by decide +kernel
theorem d_Mod_count_42 : decode b_Mod_count 42 = .ok (.if_icmp .ne 15, 3) := by decide +kernel
theorem d_Mod_count_45 : decode b_Mod_count 45 = .ok (.aload_n 0, 1) := by decide +kernel
theorem d_Mod_count_46 : decode b_Mod_count 46 = .ok (.getfield 90, 3) := by decide +kernel
theorem d_Mod_count_49 : decode b_Mod_count 49 = .ok (.aload_n 0, 1) := by decide +kernel
theorem d_Mod_count_50 : decode b_Mod_count 50 = .ok (.invokevirtual 93, 3) := by decide +kernel
theorem d_Mod_count_53 : decode b_Mod_count 53 = .ok (.iadd, 1) := by decide +kernel
theorem d_Mod_count_54 : decode b_Mod_count 54 = .ok (.goto 24, 3) := by decide +kernel
theorem d_Mod_count_57 : decode b_Mod_count 57 = .ok (.iload_n 1, 1) := by decide +kernel
theorem d_Mod_count_58 : decode b_Mod_count 58 = .ok (.iconst 4, 1) := by decide +kernel
theorem d_Mod_count_59 : decode b_Mod_count 59 = .ok (.if_icmp .ne 18, 3) := by decide +kernel
theorem d_Mod_count_62 : decode b_Mod_count 62 = .ok (.aload_n 0, 1) := by decide +kernel
theorem d_Mod_count_63 : decode b_Mod_count 63 = .ok (.getfield 204, 3) := by decide +kernel
theorem d_Mod_count_66 : decode b_Mod_count 66 = .ok (.ifCond .eq 7, 3) := by decide +kernel
theorem d_Mod_count_69 : decode b_Mod_count 69 = .ok (.iconst 1, 1) := by decide +kernel
theorem d_Mod_count_70 : decode b_Mod_count 70 = .ok (.goto 8, 3) := by decide +kernel
theorem d_Mod_count_73 : decode b_Mod_count 73 = .ok (.iconst 0, 1) := by decide +kernel
theorem d_Mod_count_74 : decode b_Mod_count 74 = .ok (.goto 4, 3) := by decide +kernel
theorem d_Mod_count_77 : decode b_Mod_count 77 = .ok (.iconst (-1), 1) := by decide +kernel
theorem d_Mod_count_78 : decode b_Mod_count 78 = .ok (.ireturn, 1) := by decide +kernel
theorem d_Mod_size_0 : decode b_Mod_size 0 = .ok (.aload_n 0, 1) := by decide +kernel
theorem d_Mod_size_1 : decode b_Mod_size 1 = .ok (.iconst 0, 1) := by decide +kernel
theorem d_Mod_size_2 : decode b_Mod_size 2 = .ok (.putfield 81, 3) := by decide +kernel
theorem d_Mod_size_5 : decode b_Mod_size 5 = .ok (.aload_n 0, 1) := by decide +kernel
theorem d_Mod_size_6 : decode b_Mod_size 6 = .ok (.iload_n 1, 1) := by decide +kernel
theorem d_Mod_size_7 : decode b_Mod_size 7 = .ok (.invokevirtual 142, 3) := by decide +kernel
theorem d_Mod_size_10 : decode b_Mod_size 10 = .ok (.ifCond .eq 12, 3) := by decide +kernel
theorem d_Mod_size_13 : decode b_Mod_size 13 = .ok (.iload_n 2, 1) := by decide +kernel
theorem d_Mod_size_14 : decode b_Mod_size 14 = .ok (.ifCond .lt 8, 3) := by decide +kernel
end
section
theorem d_Mod_size_17 : decode b_Mod_size 17 = .ok (.iload_n 2, 1) := by decide +kernel
theorem d_Mod_size_18 : decode b_Mod_size 18 = .ok (.iconst 2, 1) := by decide +kernel
theorem d_Mod_size_19 : decode b_Mod_size 19 = .ok (.if_icmp .le 5, 3) := by decide +kernel
theorem d_Mod_size_22 : decode b_Mod_size 22 = .ok (.iconst 0, 1) := by decide +kernel
theorem d_Mod_size_23 : decode b_Mod_size 23 = .ok (.ireturn, 1) := by decide +kernel
theorem d_Mod_size_24 : decode b_Mod_size 24 = .ok (.aload_n 0, 1) := by decide +kernel
theorem d_Mod_size_25 : decode b_Mod_size 25 = .ok (.iload_n 1, 1) := by decide +kernel
theorem d_Mod_size_26 : decode b_Mod_size 26 = .ok (.invokevirtual 119, 3) := by decide +kernel
theorem d_Mod_size_29 : decode b_Mod_size 29 = .ok (.istore_n 3, 1) := by decide +kernel
theorem d_Mod_size_30 : decode b_Mod_size 30 = .ok (.iload_n 2, 1) := by decide +kernel
theorem d_Mod_size_31 : decode b_Mod_size 31 = .ok (.ifCond .ne 12, 3) := by decide +kernel
theorem d_Mod_size_34 : decode b_Mod_size 34 = .ok (.aload_n 0, 1) := by decide +kernel
theorem d_Mod_size_35 : decode b_Mod_size 35 = .ok (.getfield 13, 3) := by decide +kernel
theorem d_Mod_size_38 : decode b_Mod_size 38 = .ok (.iload_n 3, 1) := by decide +kernel
theorem d_Mod_size_39 : decode b_Mod_size 39 = .ok (.iaload, 1) := by decide +kernel
theorem d_Mod_size_40 : decode b_Mod_size 40 = .ok (.goto 23, 3) := by decide +kernel
theorem d_Mod_size_43 : decode b_Mod_size 43 = .ok (.iload_n 2, 1) := by decide +kernel
theorem d_Mod_size_44 : decode b_Mod_size 44 = .ok (.iconst 1, 1) := by decide +kernel
theorem d_Mod_size_45 : decode b_Mod_size 45 = .ok (.if_icmp .ne 12, 3) := by decide +kernel
theorem d_Mod_size_48 : decode b_Mod_size 48 = .ok (.aload_n 0, 1) := by decide +kernel
theorem d_Mod_size_49 : decode b_Mod_size 49 = .ok (.getfield 16, 3) := by decide +kernel
theorem d_Mod_size_52 : decode b_Mod_size 52 = .ok (.iload_n 3, 1) := by decide +kernel
theorem d_Mod_size_53 : decode b_Mod_size 53 = .ok (.iaload, 1) := by decide +kernel
theorem d_Mod_size_54 : decode b_Mod_size 54 = .ok (.goto 9, 3) := by decide +kernel
theorem d_Mod_size_57 : decode b_Mod_size 57 = .ok (.aload_n 0, 1) := by decide +kernel
theorem d_Mod_size_58 : decode b_Mod_size 58 = .ok (.getfield 19, 3) := by decide +kernel
theorem d_Mod_size_61 : decode b_Mod_size 61 = .ok (.iload_n 3, 1) := by decide +kernel
theorem d_Mod_size_62 : decode b_Mod_size 62 = .ok (.iaload, 1) := by decide +kernel
theorem d_Mod_size_63 : decode b_Mod_size 63 = .ok (.ireturn, 1) := by decide +kernel
end
section
/-! THE REFERENCE's world: one object at o, its 21 arrays at ad k (k the field's number); r: what they hold. -/
abbrev RS : Type := (Nat → Int32) × Int64 × (Nat → Nat → Int32) × (Nat → Int64)
/-- its arrays: field, array class (place in tyl), length -/
def rt : List (Nat × Nat × Nat) := [(1, 0, 6200), (2, 0, 6200), (3, 0, 6200), (4, 0, 6200), (5, 0, 6200), (6, 0, 6200), (7, 0, 6200), (9, 0, 101), (10, 2, 101), (12, 0, 8), (13, 0, 32), (14, 0, 32), (15, 2, 32), (16, 2, 32), (17, 1, 320000), (25, 0, 3100), (26, 0, 3100), (28, 0, 102), (29, 3, 102), (30, 0, 816), (31, 0, 8)]
def rfv (ad : Nat → Nat) (r : RS) (k : Nat) : Value := if (rt.lookup k).isSome = true then .ref (ad k) else if k = 22 then .long r.2.1 else .int (r.1 k)
def rfs (ad : Nat → Nat) (r : RS) : List Value := (List.range 34).map (rfv ad r)
def rcl (ac : Nat → ClassId) (r : RS) (q : Nat × Nat × Nat) : va_E := if q.1 = 29 then .inl (ac q.2.1, q.2.2, .inr (.inl r.2.2.2)) else .inl (ac q.2.1, q.2.2, .inl (r.2.2.1 q.1))
def rM (ac : Nat → ClassId) (o : Nat) (ad : Nat → Nat) (r : RS) (M0 : MP) : MP := fun a => if a = o then some (.inr (9, rfs ad r)) else match rt.find? (fun q => ad q.1 == a) with
  | some q => some (rcl ac r q)
  | none => M0 a
def rAD (o : Nat) (ad : Nat → Nat) : Prop := (∀ p ∈ rt, ∀ q ∈ rt, ad p.1 = ad q.1 → p = q) ∧ ∀ q ∈ rt, ad q.1 ≠ o
def sF (r : RS) (k : Nat) (v : Int32) : RS := (va_up r.1 k v, r.2)
def sT (r : RS) (v : Int64) : RS := (r.1, v, r.2.2)
def sB (r : RS) (k : Nat) (f : Nat → Int32) : RS := (r.1, r.2.1, va_up r.2.2.1 k f, r.2.2.2)
def sL (r : RS) (f : Nat → Int64) : RS := (r.1, r.2.1, r.2.2.1, f)
def gF (r : RS) (k : Nat) : Int32 := r.1 k
def gB (r : RS) (k : Nat) : Nat → Int32 := r.2.2.1 k
theorem rt_look {k j N : Nat} (h : rt.lookup k = some (j, N)) : (k, j, N) ∈ rt := by
  have key : ∀ (L : List (Nat × Nat × Nat)), L.lookup k = some (j, N) → (k, j, N) ∈ L := by
    intro L
    induction L with
    | nil => intro h; cases h
    | cons q L ih =>
      intro h
      obtain ⟨i, w⟩ := q
      by_cases hj : k = i
      · subst hj
        rw [List.lookup_cons_self] at h
        cases h
        exact List.mem_cons_self
      · have hb : (k == i) = false := beq_eq_false_iff_ne.mpr hj
        rw [List.lookup_cons, hb] at h
        exact List.mem_cons_of_mem _ (ih h)
  exact key rt h
section RR
variable {ac : Nat → ClassId} {o : Nat} {ad : Nat → Nat} {r : RS} {M0 : MP}
theorem rM_o : rM ac o ad r M0 o = some (.inr (9, rfs ad r)) := if_pos rfl
theorem rM_a (h : rAD o ad) {q : Nat × Nat × Nat} (hq : q ∈ rt) : rM ac o ad r M0 (ad q.1) = some (rcl ac r q) := by
  unfold rM
  rw [if_neg (h.2 _ hq)]
  cases hf : rt.find? (fun p => ad p.1 == ad q.1) with
  | none => exact absurd (List.find?_eq_none.mp hf q hq) (by simp)
  | some p =>
    have h1 := List.find?_some hf
    have h2 := h.1 p (List.mem_of_find?_eq_some hf) q hq (by simpa using h1)
    rw [h2]
theorem rfs_get (k : Nat) (hk : k < 34) : (rfs ad r)[k]? = some (rfv ad r k) := by
  unfold rfs
  rw [List.getElem?_map, List.getElem?_range hk]
  rfl
theorem rfs_len : (rfs ad r).length = 34 := by simp [rfs]
theorem rfs_set {r' : RS} (k : Nat) (v : Value) (hv : rfv ad r' k = v) (ho : ∀ j, j < 34 → j ≠ k → rfv ad r' j = rfv ad r j) : (rfs ad r).set k v = rfs ad r' := by
  apply List.ext_getElem?
  intro j
  by_cases hj : j < 34
  · rw [rfs_get j hj, List.getElem?_set]
    by_cases hjk : k = j
    · subst hjk
      rw [if_pos rfl, if_pos (by rw [rfs_len]; exact hj), hv]
    · rw [if_neg hjk, rfs_get j hj, ho j hj (fun z => hjk z.symm)]
  · rw [List.getElem?_eq_none (by rw [List.length_set, rfs_len]; omega), List.getElem?_eq_none (by rw [rfs_len]; omega)]
theorem rM_set {r' : RS} {fs : List Value} (hf : fs = rfs ad r') (hr : r'.2.2 = r.2.2) : mu (rM ac o ad r M0) o (.inr (9, fs)) = rM ac o ad r' M0 := by
  funext a
  by_cases ha : a = o
  · subst ha
    rw [mu_self, rM_o, hf]
  · rw [mu_ne _ _ ha]
    unfold rM
    rw [if_neg ha, if_neg ha]
    cases rt.find? (fun q => ad q.1 == a) with
    | none => rfl
    | some q => simp only [rcl, hr]
theorem rfv_F {k : Nat} (h1 : rt.lookup k = none) (h2 : k ≠ 22) : rfv ad r k = .int (r.1 k) := by
  unfold rfv; rw [h1]; simp [h2]
theorem rfv_A {k : Nat} (h1 : (rt.lookup k).isSome = true) : rfv ad r k = .ref (ad k) := if_pos h1
theorem rM_sF {k : Nat} {v : Int32} (h1 : rt.lookup k = none) (h2 : k ≠ 22) : mu (rM ac o ad r M0) o (.inr (9, (rfs ad r).set k (.int v))) = rM ac o ad (sF r k v) M0 := by
  refine rM_set (rfs_set k _ ?_ ?_) rfl
  · rw [rfv_F h1 h2]; simp [sF, va_up_self]
  · intro j _ hj
    unfold rfv
    split
    · rfl
    · split
      · rfl
      · simp [sF, va_up_ne _ _ hj]
theorem rM_sT {v : Int64} : mu (rM ac o ad r M0) o (.inr (9, (rfs ad r).set 22 (.long v))) = rM ac o ad (sT r v) M0 := by
  refine rM_set (rfs_set 22 _ (by rfl) ?_) rfl
  intro j _ hj
  unfold rfv
  split
  · rfl
  · simp [hj, sT]
theorem rM_arr (h : rAD o ad) {q : Nat × Nat × Nat} (hq : q ∈ rt) {r' : RS} (h1 : r'.1 = r.1) (h2 : r'.2.1 = r.2.1) (h3 : ∀ p ∈ rt, p ≠ q → rcl ac r' p = rcl ac r p) : mu (rM ac o ad r M0) (ad q.1) (rcl ac r' q) = rM ac o ad r' M0 := by
  funext a
  by_cases ha : a = ad q.1
  · subst ha
    rw [mu_self, rM_a h hq]
  · rw [mu_ne _ _ ha]
    unfold rM
    by_cases hao : a = o
    · rw [if_pos hao, if_pos hao]
      congr 3
      unfold rfs
      refine List.map_congr_left (fun k _ => ?_)
      unfold rfv
      rw [h1, h2]
    · rw [if_neg hao, if_neg hao]
      cases hf : rt.find? (fun p => ad p.1 == a) with
      | none => rfl
      | some p =>
        have e1 := List.find?_some hf
        have e2 : ad p.1 = a := by simpa using e1
        simp only
        rw [h3 p (List.mem_of_find?_eq_some hf) (fun z => ha (by rw [← e2, z]))]
theorem rt_inj {p q : Nat × Nat × Nat} (hp : p ∈ rt) (hq : q ∈ rt) (h : p.1 = q.1) : p = q := (show ∀ p ∈ rt, ∀ q ∈ rt, p.1 = q.1 → p = q by decide) p hp q hq h
theorem rM_sB (h : rAD o ad) {k j N : Nat} {f : Nat → Int32} (hk : rt.lookup k = some (j, N)) (h29 : k ≠ 29) : mu (rM ac o ad r M0) (ad k) (.inl (ac j, N, .inl f)) = rM ac o ad (sB r k f) M0 := by
  have hq := rt_look hk
  have e := rM_arr (ac := ac) (r := r) (M0 := M0) h hq (r' := sB r k f) rfl rfl (fun p hp hpq => by
    have hne : p.1 ≠ k := fun z => hpq (rt_inj hp hq z)
    unfold rcl
    simp only [sB, va_up_ne _ _ hne])
  rw [← e]
  simp [rcl, h29, sB, va_up_self]
theorem rM_sL (h : rAD o ad) {f : Nat → Int64} : mu (rM ac o ad r M0) (ad 29) (.inl (ac 3, 102, .inr (.inl f))) = rM ac o ad (sL r f) M0 := by
  have hq : (29, 3, 102) ∈ rt := by decide
  have e := rM_arr (ac := ac) (r := r) (M0 := M0) h hq (r' := sL r f) rfl rfl (fun p hp hpq => by
    have hne : p.1 ≠ 29 := fun z => hpq (rt_inj hp hq z)
    unfold rcl
    rw [if_neg hne, if_neg hne]; rfl)
  rw [← e]
  rfl
end RR
end
section
section VR
variable {l : Launch} {D : va_G} {ac : Nat → ClassId} {t : MT} {k n pc : Nat} {lv : List (Nat × Value)} {st : List Value} {Q : Option Value → MP → Prop} {o : Nat} {ad : Nat → Nat} {r : RS} {M0 M : MP}
/-- the number on top, by another name -/
theorem V_eqi {x y : Int32} (e : x = y) (h : V l D (tyl ac) t k n pc lv (.int y :: st) M Q) : V l D (tyl ac) t k n pc lv (.int x :: st) M Q := by rw [e]; exact h
theorem V_eql {x y : Int64} (e : x = y) (h : V l D (tyl ac) t k n pc lv (.long y :: st) M Q) : V l D (tyl ac) t k n pc lv (.long x :: st) M Q := by rw [e]; exact h
theorem V_topi {x : Int32} (h : ∀ y, y = x → V l D (tyl ac) t k n pc lv (.int y :: st) M Q) : V l D (tyl ac) t k n pc lv (.int x :: st) M Q := h x rfl
theorem V_topl {x : Int64} (h : ∀ y, y = x → V l D (tyl ac) t k n pc lv (.long y :: st) M Q) : V l D (tyl ac) t k n pc lv (.long x :: st) M Q := h x rfl
theorem V_eqM {M' : MP} (e : M = M') (h : V l D (tyl ac) t k n pc lv st M' Q) : V l D (tyl ac) t k n pc lv st M Q := by rw [e]; exact h
theorem V_less {k' n' : Nat} (hk' : k' ≤ k) (hn' : n' ≤ n) (h : V l D (tyl ac) t k' n' pc lv st M Q) : V l D (tyl ac) t k n pc lv st M Q := fun A p e s m args below meth c C k0 n0 H locs cells slots ls hM hS hl hk hn => h A p e s m args below meth c C k0 n0 H locs cells slots ls hM hS hl (by omega) (by omega)
theorem VR_geti {i f : Nat} {FT : FieldType} {fin : Bool} {dc : String} (hd : decode t.2.1 pc = .ok (.getfield i, 3)) (hf : FL t.1.cls i 9 f FT fin dc) (hk : f < 34 ∧ rt.lookup f = none ∧ f ≠ 22) (h : V l D (tyl ac) t k n (pc + 3) lv (.int (gF r f) :: st) (rM ac o ad r M0) Q) : V l D (tyl ac) t k n pc lv (.ref o :: st) (rM ac o ad r M0) Q := V_getf hd hf rM_o (v := .int (gF r f)) (by rw [rfs_get f hk.1, rfv_F hk.2.1 hk.2.2]; rfl) h
theorem VR_geta {i f : Nat} {FT : FieldType} {fin : Bool} {dc : String} (hd : decode t.2.1 pc = .ok (.getfield i, 3)) (hf : FL t.1.cls i 9 f FT fin dc) (hk : f < 34 ∧ (rt.lookup f).isSome = true) (h : V l D (tyl ac) t k n (pc + 3) lv (.ref (ad f) :: st) (rM ac o ad r M0) Q) : V l D (tyl ac) t k n pc lv (.ref o :: st) (rM ac o ad r M0) Q := V_getf hd hf rM_o (v := .ref (ad f)) (by rw [rfs_get f hk.1, rfv_A hk.2]) h
theorem VR_getT {i : Nat} {FT : FieldType} {fin : Bool} {dc : String} (hd : decode t.2.1 pc = .ok (.getfield i, 3)) (hf : FL t.1.cls i 9 22 FT fin dc) (h : V l D (tyl ac) t k n (pc + 3) lv (.long r.2.1 :: st) (rM ac o ad r M0) Q) : V l D (tyl ac) t k n pc lv (.ref o :: st) (rM ac o ad r M0) Q := V_getf hd hf rM_o (v := .long r.2.1) (by rw [rfs_get 22 (by decide)]; rfl) h
theorem VR_puti {i f : Nat} {x : Int32} {dc : String} (hd : decode t.2.1 pc = .ok (.putfield i, 3)) (hf : FL t.1.cls i 9 f .int false dc) (hk : f < 34 ∧ rt.lookup f = none ∧ f ≠ 22) (h : V l D (tyl ac) t k n (pc + 3) lv st (rM ac o ad (sF r f x) M0) Q) : V l D (tyl ac) t k n pc lv (.int x :: .ref o :: st) (rM ac o ad r M0) Q := V_putf hd hf rM_o rfl rfl (by rw [rfs_len]; exact hk.1) (by rw [rM_sF hk.2.1 hk.2.2]; exact h)
theorem VR_putz {i f : Nat} {x : Int32} {dc : String} (hd : decode t.2.1 pc = .ok (.putfield i, 3)) (hf : FL t.1.cls i 9 f .boolean false dc) (hk : f < 34 ∧ rt.lookup f = none ∧ f ≠ 22) (hx : narrow .boolean (.int x) = .int x ∧ fits .boolean (.int x) = true) (h : V l D (tyl ac) t k n (pc + 3) lv st (rM ac o ad (sF r f x) M0) Q) : V l D (tyl ac) t k n pc lv (.int x :: .ref o :: st) (rM ac o ad r M0) Q := V_putf hd hf rM_o hx.1 hx.2 (by rw [rfs_len]; exact hk.1) (by rw [rM_sF hk.2.1 hk.2.2]; exact h)
theorem VR_putT {i : Nat} {x : Int64} {dc : String} (hd : decode t.2.1 pc = .ok (.putfield i, 3)) (hf : FL t.1.cls i 9 22 .long false dc) (h : V l D (tyl ac) t k n (pc + 3) lv st (rM ac o ad (sT r x) M0) Q) : V l D (tyl ac) t k n pc lv (.long x :: .ref o :: st) (rM ac o ad r M0) Q := V_putf hd hf rM_o rfl rfl (by rw [rfs_len]; decide) (by rw [rM_sT]; exact h)
theorem VR_iald (hA : rAD o ad) {f N m : Nat} (hd : decode t.2.1 pc = .ok (.iaload, 1)) (hk : rt.lookup f = some (0, N)) (hm : m < N) (hN : N < 2 ^ 31) (h : V l D (tyl ac) t k n (pc + 1) lv (.int (gB r f m) :: st) (rM ac o ad r M0) Q) : V l D (tyl ac) t k n pc lv (.int (nI m) :: .ref (ad f) :: st) (rM ac o ad r M0) Q := by
  have h29 : f ≠ 29 := fun z => by rw [z, show rt.lookup 29 = some (3, 102) from rfl] at hk; simp at hk
  refine V_iald hd (f := gB r f) ((rM_a hA (rt_look hk)).trans (by unfold rcl; rw [if_neg h29]; rfl)) (vp_in_nI hm hN) ?_
  rw [nI_clamp (Nat.lt_trans hm hN)]
  exact h
theorem VR_bald (hA : rAD o ad) {f N m : Nat} (hd : decode t.2.1 pc = .ok (.baload, 1)) (hk : rt.lookup f = some (1, N)) (hm : m < N) (hN : N < 2 ^ 31) (h : V l D (tyl ac) t k n (pc + 1) lv (.int (gB r f m) :: st) (rM ac o ad r M0) Q) : V l D (tyl ac) t k n pc lv (.int (nI m) :: .ref (ad f) :: st) (rM ac o ad r M0) Q := by
  have h29 : f ≠ 29 := fun z => by rw [z, show rt.lookup 29 = some (3, 102) from rfl] at hk; simp at hk
  refine V_bald hd (f := gB r f) ((rM_a hA (rt_look hk)).trans (by unfold rcl; rw [if_neg h29]; rfl)) (vp_in_nI hm hN) ?_
  rw [nI_clamp (Nat.lt_trans hm hN)]
  exact h
theorem VR_zald (hA : rAD o ad) {f N m : Nat} (hd : decode t.2.1 pc = .ok (.baload, 1)) (hk : rt.lookup f = some (2, N)) (hm : m < N) (hN : N < 2 ^ 31) (h : V l D (tyl ac) t k n (pc + 1) lv (.int (gB r f m) :: st) (rM ac o ad r M0) Q) : V l D (tyl ac) t k n pc lv (.int (nI m) :: .ref (ad f) :: st) (rM ac o ad r M0) Q := by
  have h29 : f ≠ 29 := fun z => by rw [z, show rt.lookup 29 = some (3, 102) from rfl] at hk; simp at hk
  refine V_zald hd (f := gB r f) ((rM_a hA (rt_look hk)).trans (by unfold rcl; rw [if_neg h29]; rfl)) (vp_in_nI hm hN) ?_
  rw [nI_clamp (Nat.lt_trans hm hN)]
  exact h
theorem VR_lald (hA : rAD o ad) {m : Nat} (hd : decode t.2.1 pc = .ok (.laload, 1)) (hm : m < 102) (h : V l D (tyl ac) t k n (pc + 1) lv (.long (r.2.2.2 m) :: st) (rM ac o ad r M0) Q) : V l D (tyl ac) t k n pc lv (.int (nI m) :: .ref (ad 29) :: st) (rM ac o ad r M0) Q := by
  refine V_lald hd (f := r.2.2.2) (rM_a hA (q := (29, 3, 102)) (by decide)) (vp_in_nI hm (by decide)) ?_
  rw [nI_clamp (by omega)]
  exact h
theorem VR_iast (hA : rAD o ad) {f N m : Nat} {x : Int32} (hd : decode t.2.1 pc = .ok (.iastore, 1)) (hk : rt.lookup f = some (0, N)) (hm : m < N) (hN : N < 2 ^ 31) (h : V l D (tyl ac) t k n (pc + 1) lv st (rM ac o ad (sB r f (upd (gB r f) m x)) M0) Q) : V l D (tyl ac) t k n pc lv (.int x :: .int (nI m) :: .ref (ad f) :: st) (rM ac o ad r M0) Q := by
  have h29 : f ≠ 29 := fun z => by rw [z, show rt.lookup 29 = some (3, 102) from rfl] at hk; simp at hk
  refine V_iast hd (f := gB r f) ((rM_a hA (rt_look hk)).trans (by unfold rcl; rw [if_neg h29]; rfl)) (vp_in_nI hm hN) ?_
  rw [nI_clamp (Nat.lt_trans hm hN), rM_sB hA hk h29]
  exact h
theorem VR_bast (hA : rAD o ad) {f N m : Nat} {x : Int32} (hd : decode t.2.1 pc = .ok (.bastore, 1)) (hk : rt.lookup f = some (1, N)) (hm : m < N) (hN : N < 2 ^ 31) (h : V l D (tyl ac) t k n (pc + 1) lv st (rM ac o ad (sB r f (upd (gB r f) m (vp_nar .byte x))) M0) Q) : V l D (tyl ac) t k n pc lv (.int x :: .int (nI m) :: .ref (ad f) :: st) (rM ac o ad r M0) Q := by
  have h29 : f ≠ 29 := fun z => by rw [z, show rt.lookup 29 = some (3, 102) from rfl] at hk; simp at hk
  refine V_bast hd (f := gB r f) ((rM_a hA (rt_look hk)).trans (by unfold rcl; rw [if_neg h29]; rfl)) (vp_in_nI hm hN) ?_
  rw [nI_clamp (Nat.lt_trans hm hN), rM_sB hA hk h29]
  exact h
theorem VR_zast (hA : rAD o ad) {f N m : Nat} {x : Int32} (hd : decode t.2.1 pc = .ok (.bastore, 1)) (hk : rt.lookup f = some (2, N)) (hm : m < N) (hN : N < 2 ^ 31) (h : V l D (tyl ac) t k n (pc + 1) lv st (rM ac o ad (sB r f (upd (gB r f) m (vp_nar .boolean x))) M0) Q) : V l D (tyl ac) t k n pc lv (.int x :: .int (nI m) :: .ref (ad f) :: st) (rM ac o ad r M0) Q := by
  have h29 : f ≠ 29 := fun z => by rw [z, show rt.lookup 29 = some (3, 102) from rfl] at hk; simp at hk
  refine V_zast hd (f := gB r f) ((rM_a hA (rt_look hk)).trans (by unfold rcl; rw [if_neg h29]; rfl)) (vp_in_nI hm hN) ?_
  rw [nI_clamp (Nat.lt_trans hm hN), rM_sB hA hk h29]
  exact h
theorem VR_last (hA : rAD o ad) {m : Nat} {x : Int64} (hd : decode t.2.1 pc = .ok (.lastore, 1)) (hm : m < 102) (h : V l D (tyl ac) t k n (pc + 1) lv st (rM ac o ad (sL r (vp_updL r.2.2.2 m x)) M0) Q) : V l D (tyl ac) t k n pc lv (.long x :: .int (nI m) :: .ref (ad 29) :: st) (rM ac o ad r M0) Q := by
  refine V_last hd (f := r.2.2.2) (rM_a hA (q := (29, 3, 102)) (by decide)) (vp_in_nI hm (by decide)) ?_
  rw [nI_clamp (by omega), rM_sL hA]
  exact h
theorem VR_call {i na : Nat} {t' : MT} {As rest : List Value} {k' n' k2 n2 : Nat} {Q' : Option Value → MP → Prop} (hd : decode t.2.1 pc = .ok (.invokevirtual i, 3)) (ok : OKV t.1.cls i t' na) (hR : rmf t t') (hcl : t'.1.cls = R_Mod) (hna : As.length = na) (hst : st = As.reverse ++ .ref o :: rest) (hW9 : (rest.map fun v => v.category).sum ≤ 8) (hk' : k = k' + k2) (hn' : n = n' + n2) (ct : Ct l D (tyl ac) t' k2 n2 (.ref o :: As) (rM ac o ad r M0) Q') (h : ∀ x M', Q' x M' → V l D (tyl ac) t k' n' (pc + 3) lv (x.toList ++ rest) M' Q) : V l D (tyl ac) t k n pc lv st (rM ac o ad r M0) Q := V_callV (T := T_Mod) (N := 34) rM_o (by rw [hcl]; rfl) hd ok hR hna hst hW9 hk' hn' ct h
end VR
end
section
/-- contracts of the reference: the answer and the new state, both explicit; nothing is made -/
abbrev RCi (l : Launch) (D : va_G) (ac : Nat → ClassId) (o : Nat) (ad : Nat → Nat) (t : MT) (As : List Value) (r : RS) (v : Int32) (r' : RS) : Prop := ∀ M0 : MP, Ct l D (tyl ac) t 0 0 (.ref o :: As) (rM ac o ad r M0) (fun x M' => x = some (.int v) ∧ M' = rM ac o ad r' M0)
abbrev RCv (l : Launch) (D : va_G) (ac : Nat → ClassId) (o : Nat) (ad : Nat → Nat) (t : MT) (As : List Value) (r : RS) (r' : RS) : Prop := ∀ M0 : MP, Ct l D (tyl ac) t 0 0 (.ref o :: As) (rM ac o ad r M0) (fun x M' => x = none ∧ M' = rM ac o ad r' M0)
/-- a static method that changes nothing -/
abbrev SCi (l : Launch) (D : va_G) (ac : Nat → ClassId) (t : MT) (As : List Value) (v : Int32) : Prop := ∀ M : MP, Ct l D (tyl ac) t 0 0 As M (fun x M' => x = some (.int v) ∧ M' = M)
def b2i (b : Prop) [Decidable b] : Int32 := if b then 1 else 0
section VR2
variable {l : Launch} {D : va_G} {ac : Nat → ClassId} {t t' : MT} {k n pc : Nat} {lv : List (Nat × Value)} {rest : List Value} {Q : Option Value → MP → Prop} {o : Nat} {ad : Nat → Nat} {r r' : RS} {M0 M : MP} {i : Nat} {v : Int32} {v1 v2 v3 v4 v5 v6 v7 : Value}
theorem V_ar_n {j : Fin 4} {x : Nat} {st : List Value} (hd : decode t.2.1 pc = .ok (.aload_n j, 1)) (hv : lv.lookup (j : Nat) = some (.ref x)) (h : V l D (tyl ac) t k n (pc + 1) lv (.ref x :: st) M Q) : V l D (tyl ac) t k n pc lv st M Q := V_aload_n hd hv (isr_ref x) h
theorem V_ar {j : Nat} {x : Nat} {st : List Value} (hd : decode t.2.1 pc = .ok (.aload j, 2)) (hv : lv.lookup j = some (.ref x)) (h : V l D (tyl ac) t k n (pc + 2) lv (.ref x :: st) M Q) : V l D (tyl ac) t k n pc lv st M Q := V_aload hd hv (isr_ref x) h
theorem VR_ci0 (hd : decode t.2.1 pc = .ok (.invokevirtual i, 3)) (ok : OKV t.1.cls i t' 0) (ct : RCi l D ac o ad t' [] r v r') (hR : rmf t t') (hcl : t'.1.cls = R_Mod) (hW9 : (rest.map fun v => v.category).sum ≤ 8) (h : V l D (tyl ac) t k n (pc + 3) lv (.int v :: rest) (rM ac o ad r' M0) Q) : V l D (tyl ac) t k n pc lv (.ref o :: rest) (rM ac o ad r M0) Q := VR_call hd ok hR hcl rfl rfl hW9 rfl rfl (ct M0) (fun x M' hq => by obtain ⟨rfl, rfl⟩ := hq; exact h)
theorem VR_cv0 (hd : decode t.2.1 pc = .ok (.invokevirtual i, 3)) (ok : OKV t.1.cls i t' 0) (ct : RCv l D ac o ad t' [] r r') (hR : rmf t t') (hcl : t'.1.cls = R_Mod) (hW9 : (rest.map fun v => v.category).sum ≤ 8) (h : V l D (tyl ac) t k n (pc + 3) lv rest (rM ac o ad r' M0) Q) : V l D (tyl ac) t k n pc lv (.ref o :: rest) (rM ac o ad r M0) Q := VR_call hd ok hR hcl rfl rfl hW9 rfl rfl (ct M0) (fun x M' hq => by obtain ⟨rfl, rfl⟩ := hq; exact h)
theorem VR_ci1 (hd : decode t.2.1 pc = .ok (.invokevirtual i, 3)) (ok : OKV t.1.cls i t' 1) (ct : RCi l D ac o ad t' [v1] r v r') (hR : rmf t t') (hcl : t'.1.cls = R_Mod) (hW9 : (rest.map fun v => v.category).sum ≤ 8) (h : V l D (tyl ac) t k n (pc + 3) lv (.int v :: rest) (rM ac o ad r' M0) Q) : V l D (tyl ac) t k n pc lv (v1 :: .ref o :: rest) (rM ac o ad r M0) Q := VR_call hd ok hR hcl rfl rfl hW9 rfl rfl (ct M0) (fun x M' hq => by obtain ⟨rfl, rfl⟩ := hq; exact h)
theorem VR_cv1 (hd : decode t.2.1 pc = .ok (.invokevirtual i, 3)) (ok : OKV t.1.cls i t' 1) (ct : RCv l D ac o ad t' [v1] r r') (hR : rmf t t') (hcl : t'.1.cls = R_Mod) (hW9 : (rest.map fun v => v.category).sum ≤ 8) (h : V l D (tyl ac) t k n (pc + 3) lv rest (rM ac o ad r' M0) Q) : V l D (tyl ac) t k n pc lv (v1 :: .ref o :: rest) (rM ac o ad r M0) Q := VR_call hd ok hR hcl rfl rfl hW9 rfl rfl (ct M0) (fun x M' hq => by obtain ⟨rfl, rfl⟩ := hq; exact h)
theorem VS_ci1 (hd : decode t.2.1 pc = .ok (.invokestatic i, 3)) (ok : OKS t.1.cls i t' 1) (ct : SCi l D ac t' [v1] v) (hR : rmf t t') (hW9 : (rest.map fun v => v.category).sum ≤ 8) (h : V l D (tyl ac) t k n (pc + 3) lv (.int v :: rest) M Q) : V l D (tyl ac) t k n pc lv (v1 :: rest) M Q := V_callS (As := [v1]) hd ok hR rfl rfl hW9 rfl rfl (ct M) (fun x M' hq => by obtain ⟨rfl, rfl⟩ := hq; exact h)
theorem VS_ci1N (hd : decode t.2.1 pc = .ok (.invokestatic i, 3)) (ok : OKSN t.1.cls i t' 1) (ct : SCi l D ac t' [v1] v) (hR : rmf t t') (hW9 : (rest.map fun v => v.category).sum ≤ 8) (h : V l D (tyl ac) t k n (pc + 3) lv (.int v :: rest) M Q) : V l D (tyl ac) t k n pc lv (v1 :: rest) M Q := V_callSN (As := [v1]) hd ok hR rfl rfl hW9 rfl rfl (ct M) (fun x M' hq => by obtain ⟨rfl, rfl⟩ := hq; exact h)
theorem VR_ci2 (hd : decode t.2.1 pc = .ok (.invokevirtual i, 3)) (ok : OKV t.1.cls i t' 2) (ct : RCi l D ac o ad t' [v1, v2] r v r') (hR : rmf t t') (hcl : t'.1.cls = R_Mod) (hW9 : (rest.map fun v => v.category).sum ≤ 8) (h : V l D (tyl ac) t k n (pc + 3) lv (.int v :: rest) (rM ac o ad r' M0) Q) : V l D (tyl ac) t k n pc lv (v2 :: v1 :: .ref o :: rest) (rM ac o ad r M0) Q := VR_call hd ok hR hcl rfl rfl hW9 rfl rfl (ct M0) (fun x M' hq => by obtain ⟨rfl, rfl⟩ := hq; exact h)
theorem VR_cv2 (hd : decode t.2.1 pc = .ok (.invokevirtual i, 3)) (ok : OKV t.1.cls i t' 2) (ct : RCv l D ac o ad t' [v1, v2] r r') (hR : rmf t t') (hcl : t'.1.cls = R_Mod) (hW9 : (rest.map fun v => v.category).sum ≤ 8) (h : V l D (tyl ac) t k n (pc + 3) lv rest (rM ac o ad r' M0) Q) : V l D (tyl ac) t k n pc lv (v2 :: v1 :: .ref o :: rest) (rM ac o ad r M0) Q := VR_call hd ok hR hcl rfl rfl hW9 rfl rfl (ct M0) (fun x M' hq => by obtain ⟨rfl, rfl⟩ := hq; exact h)
theorem VS_ci2 (hd : decode t.2.1 pc = .ok (.invokestatic i, 3)) (ok : OKS t.1.cls i t' 2) (ct : SCi l D ac t' [v1, v2] v) (hR : rmf t t') (hW9 : (rest.map fun v => v.category).sum ≤ 8) (h : V l D (tyl ac) t k n (pc + 3) lv (.int v :: rest) M Q) : V l D (tyl ac) t k n pc lv (v2 :: v1 :: rest) M Q := V_callS (As := [v1, v2]) hd ok hR rfl rfl hW9 rfl rfl (ct M) (fun x M' hq => by obtain ⟨rfl, rfl⟩ := hq; exact h)
theorem VS_ci2N (hd : decode t.2.1 pc = .ok (.invokestatic i, 3)) (ok : OKSN t.1.cls i t' 2) (ct : SCi l D ac t' [v1, v2] v) (hR : rmf t t') (hW9 : (rest.map fun v => v.category).sum ≤ 8) (h : V l D (tyl ac) t k n (pc + 3) lv (.int v :: rest) M Q) : V l D (tyl ac) t k n pc lv (v2 :: v1 :: rest) M Q := V_callSN (As := [v1, v2]) hd ok hR rfl rfl hW9 rfl rfl (ct M) (fun x M' hq => by obtain ⟨rfl, rfl⟩ := hq; exact h)
theorem VR_ci3 (hd : decode t.2.1 pc = .ok (.invokevirtual i, 3)) (ok : OKV t.1.cls i t' 3) (ct : RCi l D ac o ad t' [v1, v2, v3] r v r') (hR : rmf t t') (hcl : t'.1.cls = R_Mod) (hW9 : (rest.map fun v => v.category).sum ≤ 8) (h : V l D (tyl ac) t k n (pc + 3) lv (.int v :: rest) (rM ac o ad r' M0) Q) : V l D (tyl ac) t k n pc lv (v3 :: v2 :: v1 :: .ref o :: rest) (rM ac o ad r M0) Q := VR_call hd ok hR hcl rfl rfl hW9 rfl rfl (ct M0) (fun x M' hq => by obtain ⟨rfl, rfl⟩ := hq; exact h)
theorem VR_cv3 (hd : decode t.2.1 pc = .ok (.invokevirtual i, 3)) (ok : OKV t.1.cls i t' 3) (ct : RCv l D ac o ad t' [v1, v2, v3] r r') (hR : rmf t t') (hcl : t'.1.cls = R_Mod) (hW9 : (rest.map fun v => v.category).sum ≤ 8) (h : V l D (tyl ac) t k n (pc + 3) lv rest (rM ac o ad r' M0) Q) : V l D (tyl ac) t k n pc lv (v3 :: v2 :: v1 :: .ref o :: rest) (rM ac o ad r M0) Q := VR_call hd ok hR hcl rfl rfl hW9 rfl rfl (ct M0) (fun x M' hq => by obtain ⟨rfl, rfl⟩ := hq; exact h)
theorem VS_ci3 (hd : decode t.2.1 pc = .ok (.invokestatic i, 3)) (ok : OKS t.1.cls i t' 3) (ct : SCi l D ac t' [v1, v2, v3] v) (hR : rmf t t') (hW9 : (rest.map fun v => v.category).sum ≤ 8) (h : V l D (tyl ac) t k n (pc + 3) lv (.int v :: rest) M Q) : V l D (tyl ac) t k n pc lv (v3 :: v2 :: v1 :: rest) M Q := V_callS (As := [v1, v2, v3]) hd ok hR rfl rfl hW9 rfl rfl (ct M) (fun x M' hq => by obtain ⟨rfl, rfl⟩ := hq; exact h)
theorem VS_ci3N (hd : decode t.2.1 pc = .ok (.invokestatic i, 3)) (ok : OKSN t.1.cls i t' 3) (ct : SCi l D ac t' [v1, v2, v3] v) (hR : rmf t t') (hW9 : (rest.map fun v => v.category).sum ≤ 8) (h : V l D (tyl ac) t k n (pc + 3) lv (.int v :: rest) M Q) : V l D (tyl ac) t k n pc lv (v3 :: v2 :: v1 :: rest) M Q := V_callSN (As := [v1, v2, v3]) hd ok hR rfl rfl hW9 rfl rfl (ct M) (fun x M' hq => by obtain ⟨rfl, rfl⟩ := hq; exact h)
theorem VR_ci4 (hd : decode t.2.1 pc = .ok (.invokevirtual i, 3)) (ok : OKV t.1.cls i t' 4) (ct : RCi l D ac o ad t' [v1, v2, v3, v4] r v r') (hR : rmf t t') (hcl : t'.1.cls = R_Mod) (hW9 : (rest.map fun v => v.category).sum ≤ 8) (h : V l D (tyl ac) t k n (pc + 3) lv (.int v :: rest) (rM ac o ad r' M0) Q) : V l D (tyl ac) t k n pc lv (v4 :: v3 :: v2 :: v1 :: .ref o :: rest) (rM ac o ad r M0) Q := VR_call hd ok hR hcl rfl rfl hW9 rfl rfl (ct M0) (fun x M' hq => by obtain ⟨rfl, rfl⟩ := hq; exact h)
theorem VR_cv4 (hd : decode t.2.1 pc = .ok (.invokevirtual i, 3)) (ok : OKV t.1.cls i t' 4) (ct : RCv l D ac o ad t' [v1, v2, v3, v4] r r') (hR : rmf t t') (hcl : t'.1.cls = R_Mod) (hW9 : (rest.map fun v => v.category).sum ≤ 8) (h : V l D (tyl ac) t k n (pc + 3) lv rest (rM ac o ad r' M0) Q) : V l D (tyl ac) t k n pc lv (v4 :: v3 :: v2 :: v1 :: .ref o :: rest) (rM ac o ad r M0) Q := VR_call hd ok hR hcl rfl rfl hW9 rfl rfl (ct M0) (fun x M' hq => by obtain ⟨rfl, rfl⟩ := hq; exact h)
theorem VR_ci5 (hd : decode t.2.1 pc = .ok (.invokevirtual i, 3)) (ok : OKV t.1.cls i t' 5) (ct : RCi l D ac o ad t' [v1, v2, v3, v4, v5] r v r') (hR : rmf t t') (hcl : t'.1.cls = R_Mod) (hW9 : (rest.map fun v => v.category).sum ≤ 8) (h : V l D (tyl ac) t k n (pc + 3) lv (.int v :: rest) (rM ac o ad r' M0) Q) : V l D (tyl ac) t k n pc lv (v5 :: v4 :: v3 :: v2 :: v1 :: .ref o :: rest) (rM ac o ad r M0) Q := VR_call hd ok hR hcl rfl rfl hW9 rfl rfl (ct M0) (fun x M' hq => by obtain ⟨rfl, rfl⟩ := hq; exact h)
theorem VR_cv5 (hd : decode t.2.1 pc = .ok (.invokevirtual i, 3)) (ok : OKV t.1.cls i t' 5) (ct : RCv l D ac o ad t' [v1, v2, v3, v4, v5] r r') (hR : rmf t t') (hcl : t'.1.cls = R_Mod) (hW9 : (rest.map fun v => v.category).sum ≤ 8) (h : V l D (tyl ac) t k n (pc + 3) lv rest (rM ac o ad r' M0) Q) : V l D (tyl ac) t k n pc lv (v5 :: v4 :: v3 :: v2 :: v1 :: .ref o :: rest) (rM ac o ad r M0) Q := VR_call hd ok hR hcl rfl rfl hW9 rfl rfl (ct M0) (fun x M' hq => by obtain ⟨rfl, rfl⟩ := hq; exact h)
theorem VR_ci6 (hd : decode t.2.1 pc = .ok (.invokevirtual i, 3)) (ok : OKV t.1.cls i t' 6) (ct : RCi l D ac o ad t' [v1, v2, v3, v4, v5, v6] r v r') (hR : rmf t t') (hcl : t'.1.cls = R_Mod) (hW9 : (rest.map fun v => v.category).sum ≤ 8) (h : V l D (tyl ac) t k n (pc + 3) lv (.int v :: rest) (rM ac o ad r' M0) Q) : V l D (tyl ac) t k n pc lv (v6 :: v5 :: v4 :: v3 :: v2 :: v1 :: .ref o :: rest) (rM ac o ad r M0) Q := VR_call hd ok hR hcl rfl rfl hW9 rfl rfl (ct M0) (fun x M' hq => by obtain ⟨rfl, rfl⟩ := hq; exact h)
theorem VR_cv6 (hd : decode t.2.1 pc = .ok (.invokevirtual i, 3)) (ok : OKV t.1.cls i t' 6) (ct : RCv l D ac o ad t' [v1, v2, v3, v4, v5, v6] r r') (hR : rmf t t') (hcl : t'.1.cls = R_Mod) (hW9 : (rest.map fun v => v.category).sum ≤ 8) (h : V l D (tyl ac) t k n (pc + 3) lv rest (rM ac o ad r' M0) Q) : V l D (tyl ac) t k n pc lv (v6 :: v5 :: v4 :: v3 :: v2 :: v1 :: .ref o :: rest) (rM ac o ad r M0) Q := VR_call hd ok hR hcl rfl rfl hW9 rfl rfl (ct M0) (fun x M' hq => by obtain ⟨rfl, rfl⟩ := hq; exact h)
theorem VR_ci7 (hd : decode t.2.1 pc = .ok (.invokevirtual i, 3)) (ok : OKV t.1.cls i t' 7) (ct : RCi l D ac o ad t' [v1, v2, v3, v4, v5, v6, v7] r v r') (hR : rmf t t') (hcl : t'.1.cls = R_Mod) (hW9 : (rest.map fun v => v.category).sum ≤ 8) (h : V l D (tyl ac) t k n (pc + 3) lv (.int v :: rest) (rM ac o ad r' M0) Q) : V l D (tyl ac) t k n pc lv (v7 :: v6 :: v5 :: v4 :: v3 :: v2 :: v1 :: .ref o :: rest) (rM ac o ad r M0) Q := VR_call hd ok hR hcl rfl rfl hW9 rfl rfl (ct M0) (fun x M' hq => by obtain ⟨rfl, rfl⟩ := hq; exact h)
theorem VR_cv7 (hd : decode t.2.1 pc = .ok (.invokevirtual i, 3)) (ok : OKV t.1.cls i t' 7) (ct : RCv l D ac o ad t' [v1, v2, v3, v4, v5, v6, v7] r r') (hR : rmf t t') (hcl : t'.1.cls = R_Mod) (hW9 : (rest.map fun v => v.category).sum ≤ 8) (h : V l D (tyl ac) t k n (pc + 3) lv rest (rM ac o ad r' M0) Q) : V l D (tyl ac) t k n pc lv (v7 :: v6 :: v5 :: v4 :: v3 :: v2 :: v1 :: .ref o :: rest) (rM ac o ad r M0) Q := VR_call hd ok hR hcl rfl rfl hW9 rfl rfl (ct M0) (fun x M' hq => by obtain ⟨rfl, rfl⟩ := hq; exact h)
end VR2
end
section
/-! The reference's small methods. -/
def isz (x : Int32) : Int32 := if -1073741823 ≤ x ∧ x ≤ 1073741823 then 1 else 0
def iszl (x : Int64) : Int32 := if -1073741823 ≤ x ∧ x ≤ 1073741823 then 1 else 0
/-- what lies in the registers, in all -/
def shv (r : RS) : Int32 := bx_sum (gB r 12) 8
def hrm (r : RS) (x : Int32) : Int32 := if gF r 11 + shv r + x ≤ 3000 then 1 else 0
def stt (r : RS) (k : Nat) : Int32 := 3100 + bx_sum (gB r 12) k
def mv1 (r : RS) (k a b : Nat) : RS := sB r k (upd (gB r k) b (gB r k a))
def mv (r : RS) (a b : Nat) : RS := mv1 (mv1 (mv1 (mv1 (mv1 (mv1 (mv1 r 1 a b) 2 a b) 3 a b) 4 a b) 5 a b) 6 a b) 7 a b
theorem nz0 : narrow .boolean (.int 0) = .int 0 := by decide
theorem nz1 : narrow .boolean (.int 1) = .int 1 := by decide
set_option maxRecDepth 100000 in
set_option maxHeartbeats 4000000 in
theorem Mod_thrown {l : Launch} {D : va_G} {ac : Nat → ClassId} {o : Nat} {ad : Nat → Nat} {r : RS} : RCi l D ac o ad t_Mod_thrown [] r (gF r 0) r := fun M0 => by
  refine Ct_of (by decide) (Nat.le_of_ble_eq_true rfl) ?_
  refine V_ar_n d_Mod_thrown_0 rfl ?_
  refine VR_geti d_Mod_thrown_1 f_Mod_81 (by decide) ?_
  exact V_ireturn d_Mod_thrown_4 rfl ⟨rfl, rfl⟩
set_option maxRecDepth 100000 in
set_option maxHeartbeats 4000000 in
theorem Mod_isSize {l : Launch} {D : va_G} {ac : Nat → ClassId} (x : Int32) : SCi l D ac t_Mod_isSize [.int x] (isz x) := fun M => by
  refine Ct_of (by decide) (Nat.le_of_ble_eq_true rfl) ?_
  refine V_iload_n d_Mod_isSize_0 rfl ?_
  refine V_ldc d_Mod_isSize_1 k_Mod_84 ?_
  refine V_icmp_lt 16 d_Mod_isSize_3 (by decide) (fun h3 => ?_) (fun h3 => ?_)
  · refine V_iconst (v := 0) d_Mod_isSize_16 (by decide) ?_
    exact V_zreturn d_Mod_isSize_17 rfl nz0 ⟨by rw [isz, if_neg (fun z => absurd h3 (Int32.not_lt.mpr z.1))], rfl⟩
  · refine V_iload_n d_Mod_isSize_6 rfl ?_
    refine V_ldc d_Mod_isSize_7 k_Mod_85 ?_
    refine V_icmp_gt 16 d_Mod_isSize_9 (by decide) (fun h9 => ?_) (fun h9 => ?_)
    · refine V_iconst (v := 0) d_Mod_isSize_16 (by decide) ?_
      exact V_zreturn d_Mod_isSize_17 rfl nz0 ⟨by rw [isz, if_neg (fun z => absurd h9 (Int32.not_lt.mpr z.2))], rfl⟩
    · refine V_iconst (v := 1) d_Mod_isSize_12 (by decide) ?_
      refine V_goto 17 d_Mod_isSize_13 (by decide) ?_
      exact V_zreturn d_Mod_isSize_17 rfl nz1 ⟨by rw [isz, if_pos ⟨Int32.not_lt.mp h3, Int32.not_lt.mp h9⟩], rfl⟩
set_option maxRecDepth 100000 in
set_option maxHeartbeats 4000000 in
theorem Mod_isSizeLong {l : Launch} {D : va_G} {ac : Nat → ClassId} (x : Int64) : SCi l D ac t_Mod_isSizeLong [.long x] (iszl x) := fun M => by
  refine Ct_of (by decide) (Nat.le_of_ble_eq_true rfl) ?_
  refine V_lload_n d_Mod_isSizeLong_0 rfl ?_
  refine V_ldc2 d_Mod_isSizeLong_1 k_Mod_86 ?_
  refine V_lcmp d_Mod_isSizeLong_4 ?_
  refine V_if_lt 20 d_Mod_isSizeLong_5 (by decide) (fun h5 => ?_) (fun h5 => ?_)
  · refine V_iconst (v := 0) d_Mod_isSizeLong_20 (by decide) ?_
    exact V_zreturn d_Mod_isSizeLong_21 rfl nz0 ⟨by rw [iszl, if_neg (fun z => absurd ((lg_cmp_lt _ _).mp h5) (Int64.not_lt.mpr z.1))], rfl⟩
  · refine V_lload_n d_Mod_isSizeLong_8 rfl ?_
    refine V_ldc2 d_Mod_isSizeLong_9 k_Mod_88 ?_
    refine V_lcmp d_Mod_isSizeLong_12 ?_
    refine V_if_gt 20 d_Mod_isSizeLong_13 (by decide) (fun h13 => ?_) (fun h13 => ?_)
    · refine V_iconst (v := 0) d_Mod_isSizeLong_20 (by decide) ?_
      exact V_zreturn d_Mod_isSizeLong_21 rfl nz0 ⟨by rw [iszl, if_neg (fun z => absurd ((lg_cmp_gt _ _).mp h13) (Int64.not_lt.mpr z.2))], rfl⟩
    · refine V_iconst (v := 1) d_Mod_isSizeLong_16 (by decide) ?_
      refine V_goto 21 d_Mod_isSizeLong_17 (by decide) ?_
      exact V_zreturn d_Mod_isSizeLong_21 rfl nz1 ⟨by rw [iszl, if_pos ⟨Int64.not_lt.mp (fun z => h5 ((lg_cmp_lt _ _).mpr z)), Int64.not_lt.mp (fun z => h13 ((lg_cmp_gt _ _).mpr z))⟩], rfl⟩
set_option maxRecDepth 100000 in
set_option maxHeartbeats 4000000 in
theorem Mod_shelved_loop {l : Launch} {D : va_G} {ac : Nat → ClassId} {o : Nat} {ad : Nat → Nat} {r : RS} {M0 : MP} (hA : rAD o ad) : ∀ j i : Nat, i + j = 8 → V l D (tyl ac) t_Mod_shelved 0 0 4 [(2, .int (nI i)), (1, .int (bx_sum (gB r 12) i)), (0, .ref o)] [] (rM ac o ad r M0) (fun x M' => x = some (.int (shv r)) ∧ M' = rM ac o ad r M0) := by
  intro j
  induction j with
  | zero =>
    intro i hi
    refine V_iload_n d_Mod_shelved_4 rfl ?_
    refine V_bipush (v := nI 8) d_Mod_shelved_5 (by decide) ?_
    refine V_icmp_ge 25 d_Mod_shelved_7 (by decide) (fun h7 => ?_) (fun h7 => ?_)
    · refine V_iload_n d_Mod_shelved_25 rfl ?_
      exact V_ireturn d_Mod_shelved_26 rfl ⟨by rw [show i = 8 by omega]; rfl, rfl⟩
    · exact absurd (nI_le (show 8 ≤ i by omega) (by omega)) h7
  | succ j ih =>
    intro i hi
    have ih : ∀ i : Nat, i + j = 8 → _ := ih
    refine V_iload_n d_Mod_shelved_4 rfl ?_
    refine V_bipush (v := nI 8) d_Mod_shelved_5 (by decide) ?_
    refine V_icmp_ge 25 d_Mod_shelved_7 (by decide) (fun h7 => ?_) (fun h7 => ?_)
    · exact absurd h7 (nI_ge (by omega) (by decide))
    · refine V_iload_n d_Mod_shelved_10 rfl ?_
      refine V_ar_n d_Mod_shelved_11 rfl ?_
      refine VR_geta d_Mod_shelved_12 f_Mod_38 (by decide) ?_
      refine V_iload_n d_Mod_shelved_15 rfl ?_
      refine VR_iald hA d_Mod_shelved_16 rfl (by omega) (by decide) ?_
      refine V_iadd d_Mod_shelved_17 ?_
      refine V_istore_n (lv' := [(1, .int (bx_sum (gB r 12) (i + 1))), (2, .int (nI i)), (0, .ref o)]) d_Mod_shelved_18 (by decide) rfl ?_
      refine V_iinc (v := nI (i + 1)) (lv' := [(2, .int (nI (i + 1))), (1, .int (bx_sum (gB r 12) (i + 1))), (0, .ref o)]) 1 d_Mod_shelved_19 rfl (nI_1 i) (by decide) rfl ?_
      refine V_goto 4 d_Mod_shelved_22 (by decide) ?_
      exact ih (i + 1) (by omega)
set_option maxRecDepth 100000 in
set_option maxHeartbeats 4000000 in
theorem Mod_shelved {l : Launch} {D : va_G} {ac : Nat → ClassId} {o : Nat} {ad : Nat → Nat} {r : RS} (hA : rAD o ad) : RCi l D ac o ad t_Mod_shelved [] r (shv r) r := fun M0 => by
  refine Ct_of (by decide) (Nat.le_of_ble_eq_true rfl) ?_
  refine V_iconst (v := bx_sum (gB r 12) 0) d_Mod_shelved_0 (by rfl) ?_
  refine V_istore_n (lv' := [(1, .int (bx_sum (gB r 12) 0)), (0, .ref o)]) d_Mod_shelved_1 (by decide) rfl ?_
  refine V_iconst (v := nI 0) d_Mod_shelved_2 (by decide) ?_
  refine V_istore_n (lv' := [(2, .int (nI 0)), (1, .int (bx_sum (gB r 12) 0)), (0, .ref o)]) d_Mod_shelved_3 (by decide) rfl ?_
  exact Mod_shelved_loop hA 8 0 rfl
set_option maxRecDepth 100000 in
set_option maxHeartbeats 4000000 in
theorem Mod_hasRoom {l : Launch} {D : va_G} {ac : Nat → ClassId} {o : Nat} {ad : Nat → Nat} {r : RS} (hA : rAD o ad) (x : Int32) : RCi l D ac o ad t_Mod_hasRoom [.int x] r (hrm r x) r := fun M0 => by
  refine Ct_of (by decide) (Nat.le_of_ble_eq_true rfl) ?_
  refine V_ar_n d_Mod_hasRoom_0 rfl ?_
  refine VR_geti d_Mod_hasRoom_1 f_Mod_90 (by decide) ?_
  refine V_ar_n d_Mod_hasRoom_4 rfl ?_
  refine VR_ci0 d_Mod_hasRoom_5 c_Mod_93 (Mod_shelved hA) ⟨by decide, by decide⟩ rfl (Nat.le_of_ble_eq_true rfl) ?_
  refine V_iadd d_Mod_hasRoom_8 ?_
  refine V_iload_n d_Mod_hasRoom_9 rfl ?_
  refine V_iadd d_Mod_hasRoom_10 ?_
  refine V_sipush (v := 3000) d_Mod_hasRoom_11 (by decide) ?_
  refine V_icmp_gt 21 d_Mod_hasRoom_14 (by decide) (fun h14 => ?_) (fun h14 => ?_)
  · refine V_iconst (v := 0) d_Mod_hasRoom_21 (by decide) ?_
    exact V_zreturn d_Mod_hasRoom_22 rfl nz0 ⟨by rw [hrm, if_neg (Int32.not_le.mpr h14)], rfl⟩
  · refine V_iconst (v := 1) d_Mod_hasRoom_17 (by decide) ?_
    refine V_goto 22 d_Mod_hasRoom_18 (by decide) ?_
    exact V_zreturn d_Mod_hasRoom_22 rfl nz1 ⟨by rw [hrm, if_pos (Int32.not_lt.mp h14)], rfl⟩
set_option maxRecDepth 100000 in
set_option maxHeartbeats 4000000 in
theorem Mod_start_loop {l : Launch} {D : va_G} {ac : Nat → ClassId} {o : Nat} {ad : Nat → Nat} {r : RS} {M0 : MP} (hA : rAD o ad) {k : Nat} (hk : k ≤ 8) : ∀ j i : Nat, i + j = k → i ≤ 8 → V l D (tyl ac) t_Mod_start 0 0 6 [(3, .int (nI i)), (2, .int (stt r i)), (0, .ref o), (1, .int (nI k))] [] (rM ac o ad r M0) (fun x M' => x = some (.int (stt r k)) ∧ M' = rM ac o ad r M0) := by
  intro j
  induction j with
  | zero =>
    intro i hi h8i
    refine V_iload_n d_Mod_start_6 rfl ?_
    refine V_iload_n d_Mod_start_7 rfl ?_
    refine V_icmp_ge 26 d_Mod_start_8 (by decide) (fun h8 => ?_) (fun h8 => ?_)
    · refine V_iload_n d_Mod_start_26 rfl ?_
      exact V_ireturn d_Mod_start_27 rfl ⟨by rw [show i = k by omega], rfl⟩
    · exact absurd (nI_le (show k ≤ i by omega) (by omega)) h8
  | succ j ih =>
    intro i hi h8i
    refine V_iload_n d_Mod_start_6 rfl ?_
    refine V_iload_n d_Mod_start_7 rfl ?_
    refine V_icmp_ge 26 d_Mod_start_8 (by decide) (fun h8 => ?_) (fun h8 => ?_)
    · exact absurd h8 (nI_ge (by omega) (by omega))
    · refine V_iload_n d_Mod_start_11 rfl ?_
      refine V_ar_n d_Mod_start_12 rfl ?_
      refine VR_geta d_Mod_start_13 f_Mod_38 (by decide) ?_
      refine V_iload_n d_Mod_start_16 rfl ?_
      refine VR_iald hA d_Mod_start_17 rfl (by omega) (by decide) ?_
      refine V_iadd d_Mod_start_18 ?_
      refine V_eqi (show stt r i + gB r 12 i = stt r (i + 1) from Int32.add_assoc _ _ _) ?_
      refine V_istore_n (lv' := [(2, .int (stt r (i + 1))), (3, .int (nI i)), (0, .ref o), (1, .int (nI k))]) d_Mod_start_19 (by decide) rfl ?_
      refine V_iinc (v := nI (i + 1)) (lv' := [(3, .int (nI (i + 1))), (2, .int (stt r (i + 1))), (0, .ref o), (1, .int (nI k))]) 1 d_Mod_start_20 rfl (nI_1 i) (by decide) rfl ?_
      refine V_goto 6 d_Mod_start_23 (by decide) ?_
      exact ih (i + 1) (by omega) (by omega)
set_option maxRecDepth 100000 in
set_option maxHeartbeats 4000000 in
theorem Mod_start {l : Launch} {D : va_G} {ac : Nat → ClassId} {o : Nat} {ad : Nat → Nat} {r : RS} (hA : rAD o ad) {k : Nat} (hk : k ≤ 8) : RCi l D ac o ad t_Mod_start [.int (nI k)] r (stt r k) r := fun M0 => by
  refine Ct_of (by decide) (Nat.le_of_ble_eq_true rfl) ?_
  refine V_sipush (v := stt r 0) d_Mod_start_0 (by rfl) ?_
  refine V_istore_n (lv' := [(2, .int (stt r 0)), (0, .ref o), (1, .int (nI k))]) d_Mod_start_3 (by decide) rfl ?_
  refine V_iconst (v := nI 0) d_Mod_start_4 (by decide) ?_
  refine V_istore_n (lv' := [(3, .int (nI 0)), (2, .int (stt r 0)), (0, .ref o), (1, .int (nI k))]) d_Mod_start_5 (by decide) rfl ?_
  exact Mod_start_loop hA hk k 0 (by omega) (by omega)
set_option maxRecDepth 100000 in
set_option maxHeartbeats 4000000 in
theorem Mod_move {l : Launch} {D : va_G} {ac : Nat → ClassId} {o : Nat} {ad : Nat → Nat} {r : RS} (hA : rAD o ad) {a b : Nat} (ha : a < 6200) (hb : b < 6200) : RCv l D ac o ad t_Mod_move [.int (nI a), .int (nI b)] r (mv r a b) := fun M0 => by
  refine Ct_of (by decide) (Nat.le_of_ble_eq_true rfl) ?_
  refine V_ar_n d_Mod_move_0 rfl ?_
  refine VR_geta d_Mod_move_1 f_Mod_7 (by decide) ?_
  refine V_iload_n d_Mod_move_4 rfl ?_
  refine V_ar_n d_Mod_move_5 rfl ?_
  refine VR_geta d_Mod_move_6 f_Mod_7 (by decide) ?_
  refine V_iload_n d_Mod_move_9 rfl ?_
  refine VR_iald hA d_Mod_move_10 rfl (by omega) (by decide) ?_
  refine VR_iast hA d_Mod_move_11 rfl (by omega) (by decide) ?_
  refine V_ar_n d_Mod_move_12 rfl ?_
  refine VR_geta d_Mod_move_13 f_Mod_13 (by decide) ?_
  refine V_iload_n d_Mod_move_16 rfl ?_
  refine V_ar_n d_Mod_move_17 rfl ?_
  refine VR_geta d_Mod_move_18 f_Mod_13 (by decide) ?_
  refine V_iload_n d_Mod_move_21 rfl ?_
  refine VR_iald hA d_Mod_move_22 rfl (by omega) (by decide) ?_
  refine VR_iast hA d_Mod_move_23 rfl (by omega) (by decide) ?_
  refine V_ar_n d_Mod_move_24 rfl ?_
  refine VR_geta d_Mod_move_25 f_Mod_16 (by decide) ?_
  refine V_iload_n d_Mod_move_28 rfl ?_
  refine V_ar_n d_Mod_move_29 rfl ?_
  refine VR_geta d_Mod_move_30 f_Mod_16 (by decide) ?_
  refine V_iload_n d_Mod_move_33 rfl ?_
  refine VR_iald hA d_Mod_move_34 rfl (by omega) (by decide) ?_
  refine VR_iast hA d_Mod_move_35 rfl (by omega) (by decide) ?_
  refine V_ar_n d_Mod_move_36 rfl ?_
  refine VR_geta d_Mod_move_37 f_Mod_19 (by decide) ?_
  refine V_iload_n d_Mod_move_40 rfl ?_
  refine V_ar_n d_Mod_move_41 rfl ?_
  refine VR_geta d_Mod_move_42 f_Mod_19 (by decide) ?_
  refine V_iload_n d_Mod_move_45 rfl ?_
  refine VR_iald hA d_Mod_move_46 rfl (by omega) (by decide) ?_
  refine VR_iast hA d_Mod_move_47 rfl (by omega) (by decide) ?_
  refine V_ar_n d_Mod_move_48 rfl ?_
  refine VR_geta d_Mod_move_49 f_Mod_22 (by decide) ?_
  refine V_iload_n d_Mod_move_52 rfl ?_
  refine V_ar_n d_Mod_move_53 rfl ?_
  refine VR_geta d_Mod_move_54 f_Mod_22 (by decide) ?_
  refine V_iload_n d_Mod_move_57 rfl ?_
  refine VR_iald hA d_Mod_move_58 rfl (by omega) (by decide) ?_
  refine VR_iast hA d_Mod_move_59 rfl (by omega) (by decide) ?_
  refine V_ar_n d_Mod_move_60 rfl ?_
  refine VR_geta d_Mod_move_61 f_Mod_25 (by decide) ?_
  refine V_iload_n d_Mod_move_64 rfl ?_
  refine V_ar_n d_Mod_move_65 rfl ?_
  refine VR_geta d_Mod_move_66 f_Mod_25 (by decide) ?_
  refine V_iload_n d_Mod_move_69 rfl ?_
  refine VR_iald hA d_Mod_move_70 rfl (by omega) (by decide) ?_
  refine VR_iast hA d_Mod_move_71 rfl (by omega) (by decide) ?_
  refine V_ar_n d_Mod_move_72 rfl ?_
  refine VR_geta d_Mod_move_73 f_Mod_28 (by decide) ?_
  refine V_iload_n d_Mod_move_76 rfl ?_
  refine V_ar_n d_Mod_move_77 rfl ?_
  refine VR_geta d_Mod_move_78 f_Mod_28 (by decide) ?_
  refine V_iload_n d_Mod_move_81 rfl ?_
  refine VR_iald hA d_Mod_move_82 rfl (by omega) (by decide) ?_
  refine VR_iast hA d_Mod_move_83 rfl (by omega) (by decide) ?_
  exact V_return d_Mod_move_84 rfl ⟨rfl, rfl⟩
end
section
/-! The reference's methods that build: font, open, add, character, rule, space. -/
def w1 (r : RS) (k e : Nat) (v : Int32) : RS := sB r k (upd (gB r k) e v)
abbrev fok (x s d : Int32) : Prop := ¬ x < 0 ∧ ¬ 31 < x ∧ ¬ s < 0 ∧ ¬ d < 0
def fnt (r : RS) (x s d : Int32) : RS := if fok x s d then w1 (w1 (sF r 0 0) 13 x.toNatClampNeg s) 14 x.toNatClampNeg d else sF r 0 0
def opn (r : RS) (L : Nat) (b : Int32) : RS := if L = 100 then sF r 0 0 else sF (w1 (w1 (sF r 0 0) 9 L (gF r 11)) 10 L (vp_nar .boolean b)) 8 (nI (L + 1))
def isv (r : RS) (L : Nat) : Int32 := if 0 < L ∧ ¬ gB r 10 (L - 1) = 0 then 1 else 0
def put1 (r : RS) (e : Nat) (k w h d s c : Int32) : RS := sF (w1 (w1 (w1 (w1 (w1 (w1 (w1 r 1 e k) 2 e w) 3 e h) 4 e d) 5 e s) 6 e c) 7 e 1) 11 (nI (e + 1))
abbrev aok (r : RS) (b : Int32) : Prop := ¬ b = 0 ∧ ¬ gF r 8 = 0 ∧ ¬ hrm r 1 = 0
def addv (r : RS) (b : Int32) : Int32 := if aok r b then 1 else 0
def adds (r : RS) (e : Nat) (b k w h d s c : Int32) : RS := if aok r b then put1 (sF r 0 0) e k w h d s c else sF r 0 0
theorem nI_31 {x : Int32} (h0 : ¬ x < 0) (h1 : ¬ 31 < x) : ∃ m, m < 32 ∧ x = nI m := by
  obtain ⟨j, hj, e⟩ := nI_of2 (x := x) (M := 31) (n := 31) (by decide) h0 (Int32.not_lt.mp h1)
  exact ⟨j, by omega, e⟩
set_option maxRecDepth 100000 in
set_option maxHeartbeats 4000000 in
theorem Mod_font {l : Launch} {D : va_G} {ac : Nat → ClassId} {o : Nat} {ad : Nat → Nat} {r : RS} (hA : rAD o ad) (x s d : Int32) : RCi l D ac o ad t_Mod_font [.int x, .int s, .int d] r (if fok x s d then 1 else 0) (fnt r x s d) := fun M0 => by
  refine Ct_of (by decide) (Nat.le_of_ble_eq_true rfl) ?_
  refine V_ar_n d_Mod_font_0 rfl ?_
  refine V_iconst (v := 0) d_Mod_font_1 (by decide) ?_
  refine VR_puti d_Mod_font_2 f_Mod_81 (by decide) ?_
  refine V_iload_n d_Mod_font_5 rfl ?_
  refine V_if_lt 23 d_Mod_font_6 (by decide) (fun h6 => ?_) (fun h6 => ?_)
  · refine V_iconst (v := 0) d_Mod_font_23 (by decide) ?_
    exact V_zreturn d_Mod_font_24 rfl nz0 ⟨by rw [if_neg (fun z => z.1 h6)], by rw [fnt, if_neg (fun z => z.1 h6)]⟩
  · refine V_iload_n d_Mod_font_9 rfl ?_
    refine V_bipush (v := 31) d_Mod_font_10 (by decide) ?_
    refine V_icmp_gt 23 d_Mod_font_12 (by decide) (fun h12 => ?_) (fun h12 => ?_)
    · refine V_iconst (v := 0) d_Mod_font_23 (by decide) ?_
      exact V_zreturn d_Mod_font_24 rfl nz0 ⟨by rw [if_neg (fun z => z.2.1 h12)], by rw [fnt, if_neg (fun z => z.2.1 h12)]⟩
    · refine V_iload_n d_Mod_font_15 rfl ?_
      refine V_if_lt 23 d_Mod_font_16 (by decide) (fun h16 => ?_) (fun h16 => ?_)
      · refine V_iconst (v := 0) d_Mod_font_23 (by decide) ?_
        exact V_zreturn d_Mod_font_24 rfl nz0 ⟨by rw [if_neg (fun z => z.2.2.1 h16)], by rw [fnt, if_neg (fun z => z.2.2.1 h16)]⟩
      · refine V_iload_n d_Mod_font_19 rfl ?_
        refine V_if_ge 25 d_Mod_font_20 (by decide) (fun h20 => ?_) (fun h20 => ?_)
        · obtain ⟨m, hm, rfl⟩ := nI_31 h6 h12
          refine V_ar_n d_Mod_font_25 rfl ?_
          refine VR_geta d_Mod_font_26 f_Mod_41 (by decide) ?_
          refine V_iload_n d_Mod_font_29 rfl ?_
          refine V_iload_n d_Mod_font_30 rfl ?_
          refine VR_iast hA d_Mod_font_31 rfl (by omega) (by decide) ?_
          refine V_ar_n d_Mod_font_32 rfl ?_
          refine VR_geta d_Mod_font_33 f_Mod_44 (by decide) ?_
          refine V_iload_n d_Mod_font_36 rfl ?_
          refine V_iload_n d_Mod_font_37 rfl ?_
          refine VR_iast hA d_Mod_font_38 rfl (by omega) (by decide) ?_
          refine V_iconst (v := 1) d_Mod_font_39 (by decide) ?_
          have hok : fok (nI m) s d := ⟨h6, h12, h16, fun z => absurd h20 (Int32.not_le.mpr z)⟩
          exact V_zreturn d_Mod_font_40 rfl nz1 ⟨by rw [if_pos hok], by rw [fnt, if_pos hok, nI_clamp (by omega)]; rfl⟩
        · refine V_iconst (v := 0) d_Mod_font_23 (by decide) ?_
          exact V_zreturn d_Mod_font_24 rfl nz0 ⟨by rw [if_neg (fun z => h20 (Int32.not_lt.mp z.2.2.2))], by rw [fnt, if_neg (fun z => h20 (Int32.not_lt.mp z.2.2.2))]⟩
set_option maxRecDepth 100000 in
set_option maxHeartbeats 4000000 in
theorem Mod_open {l : Launch} {D : va_G} {ac : Nat → ClassId} {o : Nat} {ad : Nat → Nat} {r : RS} (hA : rAD o ad) {L : Nat} (hL : gF r 8 = nI L) (hL2 : L ≤ 100) (b : Int32) : RCi l D ac o ad t_Mod_open [.int b] r (if L = 100 then 0 else 1) (opn r L b) := fun M0 => by
  refine Ct_of (by decide) (Nat.le_of_ble_eq_true rfl) ?_
  refine V_ar_n d_Mod_open_0 rfl ?_
  refine V_iconst (v := 0) d_Mod_open_1 (by decide) ?_
  refine VR_puti d_Mod_open_2 f_Mod_81 (by decide) ?_
  refine V_ar_n d_Mod_open_5 rfl ?_
  refine VR_geti d_Mod_open_6 f_Mod_97 (by decide) ?_
  refine V_eqi (show _ = nI L from hL) ?_
  refine V_bipush (v := nI 100) d_Mod_open_9 (by decide) ?_
  refine V_icmp_ne 16 d_Mod_open_11 (by decide) (fun h11 => ?_) (fun h11 => ?_)
  · have hne : L ≠ 100 := fun z => h11 (by rw [z])
    refine V_ar_n d_Mod_open_16 rfl ?_
    refine VR_geta d_Mod_open_17 f_Mod_31 (by decide) ?_
    refine V_ar_n d_Mod_open_20 rfl ?_
    refine VR_geti d_Mod_open_21 f_Mod_97 (by decide) ?_
    refine V_eqi (show _ = nI L from hL) ?_
    refine V_ar_n d_Mod_open_24 rfl ?_
    refine VR_geti d_Mod_open_25 f_Mod_90 (by decide) ?_
    refine VR_iast hA d_Mod_open_28 rfl (by omega) (by decide) ?_
    refine V_ar_n d_Mod_open_29 rfl ?_
    refine VR_geta d_Mod_open_30 f_Mod_34 (by decide) ?_
    refine V_ar_n d_Mod_open_33 rfl ?_
    refine VR_geti d_Mod_open_34 f_Mod_97 (by decide) ?_
    refine V_eqi (show _ = nI L from hL) ?_
    refine V_iload_n d_Mod_open_37 rfl ?_
    refine VR_zast hA d_Mod_open_38 rfl (by omega) (by decide) ?_
    refine V_ar_n d_Mod_open_39 rfl ?_
    refine V_dup d_Mod_open_40 rfl ?_
    refine VR_geti d_Mod_open_41 f_Mod_97 (by decide) ?_
    refine V_eqi (show _ = nI L from hL) ?_
    refine V_iconst (v := 1) d_Mod_open_44 (by decide) ?_
    refine V_iadd d_Mod_open_45 ?_
    refine V_eqi (nI_1 L) ?_
    refine VR_puti d_Mod_open_46 f_Mod_97 (by decide) ?_
    refine V_iconst (v := 1) d_Mod_open_49 (by decide) ?_
    exact V_zreturn d_Mod_open_50 rfl nz1 ⟨by rw [if_neg hne], by rw [opn, if_neg hne]; rfl⟩
  · have hne : L = 100 := (nI_eq (by omega) (by decide)).mp (Classical.not_not.mp h11)
    refine V_iconst (v := 0) d_Mod_open_14 (by decide) ?_
    exact V_zreturn d_Mod_open_15 rfl nz0 ⟨by rw [if_pos hne], by rw [opn, if_pos hne]⟩
set_option maxRecDepth 100000 in
set_option maxHeartbeats 4000000 in
theorem Mod_isVertical {l : Launch} {D : va_G} {ac : Nat → ClassId} {o : Nat} {ad : Nat → Nat} {r : RS} (hA : rAD o ad) {L : Nat} (hL : gF r 8 = nI L) (hL2 : L ≤ 100) : RCi l D ac o ad t_Mod_isVertical [] r (isv r L) r := fun M0 => by
  refine Ct_of (by decide) (Nat.le_of_ble_eq_true rfl) ?_
  refine V_ar_n d_Mod_isVertical_0 rfl ?_
  refine VR_geti d_Mod_isVertical_1 f_Mod_97 (by decide) ?_
  refine V_eqi (show _ = nI L from hL) ?_
  refine V_if_le 25 d_Mod_isVertical_4 (by decide) (fun h4 => ?_) (fun h4 => ?_)
  · have h0 : ¬ 0 < L := fun z => absurd h4 (nI_nle z (by omega))
    refine V_iconst (v := 0) d_Mod_isVertical_25 (by decide) ?_
    exact V_zreturn d_Mod_isVertical_26 rfl nz0 ⟨by rw [isv, if_neg (fun z => h0 z.1)], rfl⟩
  · have h0 : 0 < L := by
      rcases Nat.eq_zero_or_pos L with z | z
      · exact absurd (by rw [z]; decide) h4
      · exact z
    refine V_ar_n d_Mod_isVertical_7 rfl ?_
    refine VR_geta d_Mod_isVertical_8 f_Mod_34 (by decide) ?_
    refine V_ar_n d_Mod_isVertical_11 rfl ?_
    refine VR_geti d_Mod_isVertical_12 f_Mod_97 (by decide) ?_
    refine V_eqi (show _ = nI L from hL) ?_
    refine V_iconst (v := 1) d_Mod_isVertical_15 (by decide) ?_
    refine V_isub d_Mod_isVertical_16 ?_
    refine V_eqi (show nI L - 1 = nI (L - 1) from pk_sub (b := 1) h0) ?_
    refine VR_zald hA d_Mod_isVertical_17 rfl (by omega) (by decide) ?_
    refine V_if_eq 25 d_Mod_isVertical_18 (by decide) (fun h18 => ?_) (fun h18 => ?_)
    · refine V_iconst (v := 0) d_Mod_isVertical_25 (by decide) ?_
      exact V_zreturn d_Mod_isVertical_26 rfl nz0 ⟨by rw [isv, if_neg (fun z => z.2 h18)], rfl⟩
    · refine V_iconst (v := 1) d_Mod_isVertical_21 (by decide) ?_
      refine V_goto 26 d_Mod_isVertical_22 (by decide) ?_
      exact V_zreturn d_Mod_isVertical_26 rfl nz1 ⟨by rw [isv, if_pos ⟨h0, h18⟩], rfl⟩
set_option maxRecDepth 100000 in
set_option maxHeartbeats 4000000 in
theorem Mod_add {l : Launch} {D : va_G} {ac : Nat → ClassId} {o : Nat} {ad : Nat → Nat} {r : RS} (hA : rAD o ad) {e : Nat} (he : gF r 11 = nI e) (he2 : e < 3100) (b k w h d s c : Int32) : RCi l D ac o ad t_Mod_add [.int b, .int k, .int w, .int h, .int d, .int s, .int c] r (addv r b) (adds r e b k w h d s c) := fun M0 => by
  refine Ct_of (by decide) (Nat.le_of_ble_eq_true rfl) ?_
  refine V_ar_n d_Mod_add_0 rfl ?_
  refine V_iconst (v := 0) d_Mod_add_1 (by decide) ?_
  refine VR_puti d_Mod_add_2 f_Mod_81 (by decide) ?_
  refine V_iload_n d_Mod_add_5 rfl ?_
  refine V_if_eq 24 d_Mod_add_6 (by decide) (fun h6 => ?_) (fun h6 => ?_)
  · refine V_iconst (v := 0) d_Mod_add_24 (by decide) ?_
    exact V_zreturn d_Mod_add_25 rfl nz0 ⟨by rw [addv, if_neg (fun z => z.1 h6)], by rw [adds, if_neg (fun z => z.1 h6)]⟩
  · refine V_ar_n d_Mod_add_9 rfl ?_
    refine VR_geti d_Mod_add_10 f_Mod_97 (by decide) ?_
    refine V_if_eq 24 d_Mod_add_13 (by decide) (fun h13 => ?_) (fun h13 => ?_)
    · refine V_iconst (v := 0) d_Mod_add_24 (by decide) ?_
      exact V_zreturn d_Mod_add_25 rfl nz0 ⟨by rw [addv, if_neg (fun z => z.2.1 h13)], by rw [adds, if_neg (fun z => z.2.1 h13)]⟩
    · refine V_ar_n d_Mod_add_16 rfl ?_
      refine V_iconst (v := 1) d_Mod_add_17 (by decide) ?_
      refine VR_ci1 d_Mod_add_18 c_Mod_100 (Mod_hasRoom hA 1) ⟨by decide, by decide⟩ rfl (Nat.le_of_ble_eq_true rfl) ?_
      refine V_if_ne 26 d_Mod_add_21 (by decide) (fun h21 => ?_) (fun h21 => ?_)
      · have hok : aok r b := ⟨h6, h13, h21⟩
        refine V_ar_n d_Mod_add_26 rfl ?_
        refine VR_geta d_Mod_add_27 f_Mod_7 (by decide) ?_
        refine V_ar_n d_Mod_add_30 rfl ?_
        refine VR_geti d_Mod_add_31 f_Mod_90 (by decide) ?_
        refine V_eqi (show _ = nI e from he) ?_
        refine V_iload_n d_Mod_add_34 rfl ?_
        refine VR_iast hA d_Mod_add_35 rfl (by omega) (by decide) ?_
        refine V_ar_n d_Mod_add_36 rfl ?_
        refine VR_geta d_Mod_add_37 f_Mod_13 (by decide) ?_
        refine V_ar_n d_Mod_add_40 rfl ?_
        refine VR_geti d_Mod_add_41 f_Mod_90 (by decide) ?_
        refine V_eqi (show _ = nI e from he) ?_
        refine V_iload_n d_Mod_add_44 rfl ?_
        refine VR_iast hA d_Mod_add_45 rfl (by omega) (by decide) ?_
        refine V_ar_n d_Mod_add_46 rfl ?_
        refine VR_geta d_Mod_add_47 f_Mod_16 (by decide) ?_
        refine V_ar_n d_Mod_add_50 rfl ?_
        refine VR_geti d_Mod_add_51 f_Mod_90 (by decide) ?_
        refine V_eqi (show _ = nI e from he) ?_
        refine V_iload d_Mod_add_54 rfl ?_
        refine VR_iast hA d_Mod_add_56 rfl (by omega) (by decide) ?_
        refine V_ar_n d_Mod_add_57 rfl ?_
        refine VR_geta d_Mod_add_58 f_Mod_19 (by decide) ?_
        refine V_ar_n d_Mod_add_61 rfl ?_
        refine VR_geti d_Mod_add_62 f_Mod_90 (by decide) ?_
        refine V_eqi (show _ = nI e from he) ?_
        refine V_iload d_Mod_add_65 rfl ?_
        refine VR_iast hA d_Mod_add_67 rfl (by omega) (by decide) ?_
        refine V_ar_n d_Mod_add_68 rfl ?_
        refine VR_geta d_Mod_add_69 f_Mod_22 (by decide) ?_
        refine V_ar_n d_Mod_add_72 rfl ?_
        refine VR_geti d_Mod_add_73 f_Mod_90 (by decide) ?_
        refine V_eqi (show _ = nI e from he) ?_
        refine V_iload d_Mod_add_76 rfl ?_
        refine VR_iast hA d_Mod_add_78 rfl (by omega) (by decide) ?_
        refine V_ar_n d_Mod_add_79 rfl ?_
        refine VR_geta d_Mod_add_80 f_Mod_25 (by decide) ?_
        refine V_ar_n d_Mod_add_83 rfl ?_
        refine VR_geti d_Mod_add_84 f_Mod_90 (by decide) ?_
        refine V_eqi (show _ = nI e from he) ?_
        refine V_iload d_Mod_add_87 rfl ?_
        refine VR_iast hA d_Mod_add_89 rfl (by omega) (by decide) ?_
        refine V_ar_n d_Mod_add_90 rfl ?_
        refine VR_geta d_Mod_add_91 f_Mod_28 (by decide) ?_
        refine V_ar_n d_Mod_add_94 rfl ?_
        refine VR_geti d_Mod_add_95 f_Mod_90 (by decide) ?_
        refine V_eqi (show _ = nI e from he) ?_
        refine V_iconst (v := 1) d_Mod_add_98 (by decide) ?_
        refine VR_iast hA d_Mod_add_99 rfl (by omega) (by decide) ?_
        refine V_ar_n d_Mod_add_100 rfl ?_
        refine V_dup d_Mod_add_101 rfl ?_
        refine VR_geti d_Mod_add_102 f_Mod_90 (by decide) ?_
        refine V_eqi (show _ = nI e from he) ?_
        refine V_iconst (v := 1) d_Mod_add_105 (by decide) ?_
        refine V_iadd d_Mod_add_106 ?_
        refine V_eqi (nI_1 e) ?_
        refine VR_puti d_Mod_add_107 f_Mod_90 (by decide) ?_
        refine V_iconst (v := 1) d_Mod_add_110 (by decide) ?_
        exact V_zreturn d_Mod_add_111 rfl nz1 ⟨by rw [addv, if_pos hok], by rw [adds, if_pos hok]; rfl⟩
      · refine V_iconst (v := 0) d_Mod_add_24 (by decide) ?_
        exact V_zreturn d_Mod_add_25 rfl nz0 ⟨by rw [addv, if_neg (fun z => h21 z.2.2)], by rw [adds, if_neg (fun z => h21 z.2.2)]⟩
theorem addv_z (r : RS) (b : Int32) : narrow .boolean (.int (addv r b)) = .int (addv r b) := by unfold addv; split <;> decide
set_option maxRecDepth 100000 in
set_option maxHeartbeats 4000000 in
theorem Mod_space {l : Launch} {D : va_G} {ac : Nat → ClassId} {o : Nat} {ad : Nat → Nat} {r : RS} (hA : rAD o ad) {e : Nat} (he : gF r 11 = nI e) (he2 : e < 3100) (w : Int32) : RCi l D ac o ad t_Mod_space [.int w] r (addv r (isz w)) (adds r e (isz w) 3 w 0 0 0 0) := fun M0 => by
  refine Ct_of (by decide) (Nat.le_of_ble_eq_true rfl) ?_
  refine V_ar_n d_Mod_space_0 rfl ?_
  refine V_iload_n d_Mod_space_1 rfl ?_
  refine VS_ci1 d_Mod_space_2 c_Mod_108 (Mod_isSize w) ⟨by decide, by decide⟩ (Nat.le_of_ble_eq_true rfl) ?_
  refine V_iconst (v := 3) d_Mod_space_5 (by decide) ?_
  refine V_iload_n d_Mod_space_6 rfl ?_
  refine V_iconst (v := 0) d_Mod_space_7 (by decide) ?_
  refine V_iconst (v := 0) d_Mod_space_8 (by decide) ?_
  refine V_iconst (v := 0) d_Mod_space_9 (by decide) ?_
  refine V_iconst (v := 0) d_Mod_space_10 (by decide) ?_
  refine VR_ci7 d_Mod_space_11 c_Mod_111 (Mod_add hA he he2 _ _ _ _ _ _ _) ⟨by decide, by decide⟩ rfl (Nat.le_of_ble_eq_true rfl) ?_
  exact V_zreturn d_Mod_space_14 rfl (addv_z _ _) ⟨rfl, rfl⟩
def isb (r : RS) (i : Nat) : Int32 := if gB r 1 i = 4 ∨ gB r 1 i = 5 then 1 else 0
set_option maxRecDepth 100000 in
set_option maxHeartbeats 4000000 in
theorem Mod_isBox {l : Launch} {D : va_G} {ac : Nat → ClassId} {o : Nat} {ad : Nat → Nat} {r : RS} (hA : rAD o ad) {i : Nat} (hi : i < 6200) : RCi l D ac o ad t_Mod_isBox [.int (nI i)] r (isb r i) r := fun M0 => by
  refine Ct_of (by decide) (Nat.le_of_ble_eq_true rfl) ?_
  refine V_ar_n d_Mod_isBox_0 rfl ?_
  refine VR_geta d_Mod_isBox_1 f_Mod_7 (by decide) ?_
  refine V_iload_n d_Mod_isBox_4 rfl ?_
  refine VR_iald hA d_Mod_isBox_5 rfl (by omega) (by decide) ?_
  refine V_iconst (v := 4) d_Mod_isBox_6 (by decide) ?_
  refine V_icmp_eq 20 d_Mod_isBox_7 (by decide) (fun h7 => ?_) (fun h7 => ?_)
  · refine V_iconst (v := 1) d_Mod_isBox_20 (by decide) ?_
    refine V_goto 25 d_Mod_isBox_21 (by decide) ?_
    exact V_zreturn d_Mod_isBox_25 rfl nz1 ⟨by rw [isb, if_pos (Or.inl h7)], rfl⟩
  · refine V_ar_n d_Mod_isBox_10 rfl ?_
    refine VR_geta d_Mod_isBox_11 f_Mod_7 (by decide) ?_
    refine V_iload_n d_Mod_isBox_14 rfl ?_
    refine VR_iald hA d_Mod_isBox_15 rfl (by omega) (by decide) ?_
    refine V_iconst (v := 5) d_Mod_isBox_16 (by decide) ?_
    refine V_icmp_ne 24 d_Mod_isBox_17 (by decide) (fun h17 => ?_) (fun h17 => ?_)
    · refine V_iconst (v := 0) d_Mod_isBox_24 (by decide) ?_
      exact V_zreturn d_Mod_isBox_25 rfl nz0 ⟨by rw [isb, if_neg (fun z => z.elim h7 h17)], rfl⟩
    · refine V_iconst (v := 1) d_Mod_isBox_20 (by decide) ?_
      refine V_goto 25 d_Mod_isBox_21 (by decide) ?_
      exact V_zreturn d_Mod_isBox_25 rfl nz1 ⟨by rw [isb, if_pos (Or.inr (Classical.not_not.mp h17))], rfl⟩
end
section
/-! character and rule: their merged conditions by lemmas at the meeting points -/
abbrev chok (r : RS) (L : Nat) (f c w h d : Int32) : Prop := isv r L = 0 ∧ ¬ f < 0 ∧ ¬ 32 ≤ f ∧ ¬ c < 0 ∧ ¬ 256 ≤ c ∧ ¬ isz w = 0 ∧ ¬ isz h = 0 ∧ ¬ isz d = 0
def chb (r : RS) (L : Nat) (f c w h d : Int32) : Int32 := if chok r L f c w h d then 1 else 0
set_option maxRecDepth 100000 in
set_option maxHeartbeats 4000000 in
theorem Mod_character_57 {l : Launch} {D : va_G} {ac : Nat → ClassId} {o : Nat} {ad : Nat → Nat} {r : RS} {M0 : MP} (hA : rAD o ad) {e : Nat} (he : gF r 11 = nI e) (he2 : e < 3100) (f c w h d b : Int32) : V l D (tyl ac) t_Mod_character 0 0 57 [(0, .ref o), (1, .int f), (2, .int c), (3, .int w), (4, .int h), (5, .int d)] [.int b, .ref o] (rM ac o ad r M0) (fun rv M' => rv = some (.int (addv r b)) ∧ M' = rM ac o ad (adds r e b 1 w h d f c) M0) := by
  refine V_iconst (v := 1) d_Mod_character_57 (by decide) ?_
  refine V_iload_n d_Mod_character_58 rfl ?_
  refine V_iload d_Mod_character_59 rfl ?_
  refine V_iload d_Mod_character_61 rfl ?_
  refine V_iload_n d_Mod_character_63 rfl ?_
  refine V_iload_n d_Mod_character_64 rfl ?_
  refine VR_ci7 d_Mod_character_65 c_Mod_111 (Mod_add hA he he2 _ _ _ _ _ _ _) ⟨by decide, by decide⟩ rfl (Nat.le_of_ble_eq_true rfl) ?_
  exact V_zreturn d_Mod_character_68 rfl (addv_z _ _) ⟨rfl, rfl⟩
set_option maxRecDepth 100000 in
set_option maxHeartbeats 4000000 in
theorem Mod_character {l : Launch} {D : va_G} {ac : Nat → ClassId} {o : Nat} {ad : Nat → Nat} {r : RS} (hA : rAD o ad) {L e : Nat} (hL : gF r 8 = nI L) (hL2 : L ≤ 100) (he : gF r 11 = nI e) (he2 : e < 3100) (f c w h d : Int32) : RCi l D ac o ad t_Mod_character [.int f, .int c, .int w, .int h, .int d] r (addv r (chb r L f c w h d)) (adds r e (chb r L f c w h d) 1 w h d f c) := fun M0 => by
  refine Ct_of (by decide) (Nat.le_of_ble_eq_true rfl) ?_
  have mg := fun b => Mod_character_57 (l := l) (D := D) (ac := ac) (M0 := M0) hA he he2 f c w h d b
  refine V_ar_n d_Mod_character_0 rfl ?_
  refine V_ar_n d_Mod_character_1 rfl ?_
  refine VR_ci0 d_Mod_character_2 c_Mod_104 (Mod_isVertical hA hL hL2) ⟨by decide, by decide⟩ rfl (Nat.le_of_ble_eq_true rfl) ?_
  refine V_if_ne 56 d_Mod_character_5 (by decide) (fun h5 => ?_) (fun h5 => ?_)
  · refine V_iconst (v := 0) d_Mod_character_56 (by decide) ?_
    refine V_eqi (show _ = chb r L f c w h d from (if_neg (fun z => h5 z.1)).symm) ?_
    exact mg _
  · refine V_iload_n d_Mod_character_8 rfl ?_
    refine V_if_lt 56 d_Mod_character_9 (by decide) (fun h9 => ?_) (fun h9 => ?_)
    · refine V_iconst (v := 0) d_Mod_character_56 (by decide) ?_
      refine V_eqi (show _ = chb r L f c w h d from (if_neg (fun z => z.2.1 h9)).symm) ?_
      exact mg _
    · refine V_iload_n d_Mod_character_12 rfl ?_
      refine V_bipush (v := 32) d_Mod_character_13 (by decide) ?_
      refine V_icmp_ge 56 d_Mod_character_15 (by decide) (fun h15 => ?_) (fun h15 => ?_)
      · refine V_iconst (v := 0) d_Mod_character_56 (by decide) ?_
        refine V_eqi (show _ = chb r L f c w h d from (if_neg (fun z => z.2.2.1 h15)).symm) ?_
        exact mg _
      · refine V_iload_n d_Mod_character_18 rfl ?_
        refine V_if_lt 56 d_Mod_character_19 (by decide) (fun h19 => ?_) (fun h19 => ?_)
        · refine V_iconst (v := 0) d_Mod_character_56 (by decide) ?_
          refine V_eqi (show _ = chb r L f c w h d from (if_neg (fun z => z.2.2.2.1 h19)).symm) ?_
          exact mg _
        · refine V_iload_n d_Mod_character_22 rfl ?_
          refine V_sipush (v := 256) d_Mod_character_23 (by decide) ?_
          refine V_icmp_ge 56 d_Mod_character_26 (by decide) (fun h26 => ?_) (fun h26 => ?_)
          · refine V_iconst (v := 0) d_Mod_character_56 (by decide) ?_
            refine V_eqi (show _ = chb r L f c w h d from (if_neg (fun z => z.2.2.2.2.1 h26)).symm) ?_
            exact mg _
          · refine V_iload_n d_Mod_character_29 rfl ?_
            refine VS_ci1 d_Mod_character_30 c_Mod_108 (Mod_isSize w) ⟨by decide, by decide⟩ (Nat.le_of_ble_eq_true rfl) ?_
            refine V_if_eq 56 d_Mod_character_33 (by decide) (fun h33 => ?_) (fun h33 => ?_)
            · refine V_iconst (v := 0) d_Mod_character_56 (by decide) ?_
              refine V_eqi (show _ = chb r L f c w h d from (if_neg (fun z => z.2.2.2.2.2.1 h33)).symm) ?_
              exact mg _
            · refine V_iload d_Mod_character_36 rfl ?_
              refine VS_ci1 d_Mod_character_38 c_Mod_108 (Mod_isSize h) ⟨by decide, by decide⟩ (Nat.le_of_ble_eq_true rfl) ?_
              refine V_if_eq 56 d_Mod_character_41 (by decide) (fun h41 => ?_) (fun h41 => ?_)
              · refine V_iconst (v := 0) d_Mod_character_56 (by decide) ?_
                refine V_eqi (show _ = chb r L f c w h d from (if_neg (fun z => z.2.2.2.2.2.2.1 h41)).symm) ?_
                exact mg _
              · refine V_iload d_Mod_character_44 rfl ?_
                refine VS_ci1 d_Mod_character_46 c_Mod_108 (Mod_isSize d) ⟨by decide, by decide⟩ (Nat.le_of_ble_eq_true rfl) ?_
                refine V_if_eq 56 d_Mod_character_49 (by decide) (fun h49 => ?_) (fun h49 => ?_)
                · refine V_iconst (v := 0) d_Mod_character_56 (by decide) ?_
                  refine V_eqi (show _ = chb r L f c w h d from (if_neg (fun z => z.2.2.2.2.2.2.2 h49)).symm) ?_
                  exact mg _
                · refine V_iconst (v := 1) d_Mod_character_52 (by decide) ?_
                  refine V_goto 57 d_Mod_character_53 (by decide) ?_
                  refine V_eqi (show _ = chb r L f c w h d from (if_pos ⟨Classical.not_not.mp h5, h9, h15, h19, h26, h33, h41, h49⟩).symm) ?_
                  exact mg _
def rmay (v x : Int32) : Int32 := if ¬ v = 0 then (if x = 0 ∨ x = 1 then 1 else 0) else (if x = 0 ∨ x = 2 ∨ x = 4 ∨ x = 6 then 1 else 0)
abbrev rlok (m w h d : Int32) : Prop := ¬ m = 0 ∧ ¬ isz w = 0 ∧ ¬ isz h = 0 ∧ ¬ isz d = 0
def rlb (m w h d : Int32) : Int32 := if rlok m w h d then 1 else 0
def run1 (x bit w : Int32) : Int32 := if x &&& bit = bit then -2147483648 else w
set_option maxRecDepth 100000 in
set_option maxHeartbeats 4000000 in
theorem Mod_rule_132 {l : Launch} {D : va_G} {ac : Nat → ClassId} {o : Nat} {ad : Nat → Nat} {r : RS} {M0 : MP} (hA : rAD o ad) {e : Nat} (he : gF r 11 = nI e) (he2 : e < 3100) (m w h d x b w' h' d' : Int32) : V l D (tyl ac) t_Mod_rule 0 0 132 [(5, .int m), (0, .ref o), (1, .int w), (2, .int h), (3, .int d), (4, .int x)] [.int d', .int h', .int w', .int 2, .int b, .ref o] (rM ac o ad r M0) (fun rv M' => rv = some (.int (addv r b)) ∧ M' = rM ac o ad (adds r e b 2 w' h' d' 0 0) M0) := by
  refine V_iconst (v := 0) d_Mod_rule_132 (by decide) ?_
  refine V_iconst (v := 0) d_Mod_rule_133 (by decide) ?_
  refine VR_ci7 d_Mod_rule_134 c_Mod_111 (Mod_add hA he he2 _ _ _ _ _ _ _) ⟨by decide, by decide⟩ rfl (Nat.le_of_ble_eq_true rfl) ?_
  exact V_zreturn d_Mod_rule_137 rfl (addv_z _ _) ⟨rfl, rfl⟩
set_option maxRecDepth 100000 in
set_option maxHeartbeats 4000000 in
theorem Mod_rule_118 {l : Launch} {D : va_G} {ac : Nat → ClassId} {o : Nat} {ad : Nat → Nat} {r : RS} {M0 : MP} (hA : rAD o ad) {e : Nat} (he : gF r 11 = nI e) (he2 : e < 3100) (m w h d x b w' h' : Int32) : V l D (tyl ac) t_Mod_rule 0 0 118 [(5, .int m), (0, .ref o), (1, .int w), (2, .int h), (3, .int d), (4, .int x)] [.int h', .int w', .int 2, .int b, .ref o] (rM ac o ad r M0) (fun rv M' => rv = some (.int (addv r b)) ∧ M' = rM ac o ad (adds r e b 2 w' h' (run1 x 4 d) 0 0) M0) := by
  refine V_iload d_Mod_rule_118 rfl ?_
  refine V_iconst (v := 4) d_Mod_rule_120 (by decide) ?_
  refine V_iand d_Mod_rule_121 ?_
  refine V_iconst (v := 4) d_Mod_rule_122 (by decide) ?_
  refine V_icmp_ne 131 d_Mod_rule_123 (by decide) (fun h123 => ?_) (fun h123 => ?_)
  · refine V_iload_n d_Mod_rule_131 rfl ?_
    refine V_eqi (show _ = run1 x 4 d from (if_neg h123).symm) ?_
    exact Mod_rule_132 hA he he2 m w h d x b w' h' (run1 x 4 d)
  · refine V_ldc d_Mod_rule_126 k_Mod_115 ?_
    refine V_goto 132 d_Mod_rule_128 (by decide) ?_
    refine V_eqi (show _ = run1 x 4 d from (if_pos (Classical.not_not.mp h123)).symm) ?_
    exact Mod_rule_132 hA he he2 m w h d x b w' h' (run1 x 4 d)
set_option maxRecDepth 100000 in
set_option maxHeartbeats 4000000 in
theorem Mod_rule_104 {l : Launch} {D : va_G} {ac : Nat → ClassId} {o : Nat} {ad : Nat → Nat} {r : RS} {M0 : MP} (hA : rAD o ad) {e : Nat} (he : gF r 11 = nI e) (he2 : e < 3100) (m w h d x b w' : Int32) : V l D (tyl ac) t_Mod_rule 0 0 104 [(5, .int m), (0, .ref o), (1, .int w), (2, .int h), (3, .int d), (4, .int x)] [.int w', .int 2, .int b, .ref o] (rM ac o ad r M0) (fun rv M' => rv = some (.int (addv r b)) ∧ M' = rM ac o ad (adds r e b 2 w' (run1 x 2 h) (run1 x 4 d) 0 0) M0) := by
  refine V_iload d_Mod_rule_104 rfl ?_
  refine V_iconst (v := 2) d_Mod_rule_106 (by decide) ?_
  refine V_iand d_Mod_rule_107 ?_
  refine V_iconst (v := 2) d_Mod_rule_108 (by decide) ?_
  refine V_icmp_ne 117 d_Mod_rule_109 (by decide) (fun h109 => ?_) (fun h109 => ?_)
  · refine V_iload_n d_Mod_rule_117 rfl ?_
    refine V_eqi (show _ = run1 x 2 h from (if_neg h109).symm) ?_
    exact Mod_rule_118 hA he he2 m w h d x b w' (run1 x 2 h)
  · refine V_ldc d_Mod_rule_112 k_Mod_115 ?_
    refine V_goto 118 d_Mod_rule_114 (by decide) ?_
    refine V_eqi (show _ = run1 x 2 h from (if_pos (Classical.not_not.mp h109)).symm) ?_
    exact Mod_rule_118 hA he he2 m w h d x b w' (run1 x 2 h)
set_option maxRecDepth 100000 in
set_option maxHeartbeats 4000000 in
theorem Mod_rule_89 {l : Launch} {D : va_G} {ac : Nat → ClassId} {o : Nat} {ad : Nat → Nat} {r : RS} {M0 : MP} (hA : rAD o ad) {e : Nat} (he : gF r 11 = nI e) (he2 : e < 3100) (m w h d x b : Int32) : V l D (tyl ac) t_Mod_rule 0 0 89 [(5, .int m), (0, .ref o), (1, .int w), (2, .int h), (3, .int d), (4, .int x)] [.int b, .ref o] (rM ac o ad r M0) (fun rv M' => rv = some (.int (addv r b)) ∧ M' = rM ac o ad (adds r e b 2 (run1 x 1 w) (run1 x 2 h) (run1 x 4 d) 0 0) M0) := by
  refine V_iconst (v := 2) d_Mod_rule_89 (by decide) ?_
  refine V_iload d_Mod_rule_90 rfl ?_
  refine V_iconst (v := 1) d_Mod_rule_92 (by decide) ?_
  refine V_iand d_Mod_rule_93 ?_
  refine V_iconst (v := 1) d_Mod_rule_94 (by decide) ?_
  refine V_icmp_ne 103 d_Mod_rule_95 (by decide) (fun h95 => ?_) (fun h95 => ?_)
  · refine V_iload_n d_Mod_rule_103 rfl ?_
    refine V_eqi (show _ = run1 x 1 w from (if_neg h95).symm) ?_
    exact Mod_rule_104 hA he he2 m w h d x b (run1 x 1 w)
  · refine V_ldc d_Mod_rule_98 k_Mod_115 ?_
    refine V_goto 104 d_Mod_rule_100 (by decide) ?_
    refine V_eqi (show _ = run1 x 1 w from (if_pos (Classical.not_not.mp h95)).symm) ?_
    exact Mod_rule_104 hA he he2 m w h d x b (run1 x 1 w)
set_option maxRecDepth 100000 in
set_option maxHeartbeats 4000000 in
theorem Mod_rule_57 {l : Launch} {D : va_G} {ac : Nat → ClassId} {o : Nat} {ad : Nat → Nat} {r : RS} {M0 : MP} (hA : rAD o ad) {e : Nat} (he : gF r 11 = nI e) (he2 : e < 3100) (m w h d x : Int32) : V l D (tyl ac) t_Mod_rule 0 0 57 [(5, .int m), (0, .ref o), (1, .int w), (2, .int h), (3, .int d), (4, .int x)] [] (rM ac o ad r M0) (fun rv M' => rv = some (.int (addv r (rlb m w h d))) ∧ M' = rM ac o ad (adds r e (rlb m w h d) 2 (run1 x 1 w) (run1 x 2 h) (run1 x 4 d) 0 0) M0) := by
  have mg := fun b => Mod_rule_89 (l := l) (D := D) (ac := ac) (M0 := M0) hA he he2 m w h d x b
  refine V_ar_n d_Mod_rule_57 rfl ?_
  refine V_iload d_Mod_rule_58 rfl ?_
  refine V_if_eq 88 d_Mod_rule_60 (by decide) (fun h60 => ?_) (fun h60 => ?_)
  · refine V_iconst (v := 0) d_Mod_rule_88 (by decide) ?_
    refine V_eqi (show _ = rlb m w h d from (if_neg (fun z => z.1 h60)).symm) ?_
    exact mg _
  · refine V_iload_n d_Mod_rule_63 rfl ?_
    refine VS_ci1 d_Mod_rule_64 c_Mod_108 (Mod_isSize w) ⟨by decide, by decide⟩ (Nat.le_of_ble_eq_true rfl) ?_
    refine V_if_eq 88 d_Mod_rule_67 (by decide) (fun h67 => ?_) (fun h67 => ?_)
    · refine V_iconst (v := 0) d_Mod_rule_88 (by decide) ?_
      refine V_eqi (show _ = rlb m w h d from (if_neg (fun z => z.2.1 h67)).symm) ?_
      exact mg _
    · refine V_iload_n d_Mod_rule_70 rfl ?_
      refine VS_ci1 d_Mod_rule_71 c_Mod_108 (Mod_isSize h) ⟨by decide, by decide⟩ (Nat.le_of_ble_eq_true rfl) ?_
      refine V_if_eq 88 d_Mod_rule_74 (by decide) (fun h74 => ?_) (fun h74 => ?_)
      · refine V_iconst (v := 0) d_Mod_rule_88 (by decide) ?_
        refine V_eqi (show _ = rlb m w h d from (if_neg (fun z => z.2.2.1 h74)).symm) ?_
        exact mg _
      · refine V_iload_n d_Mod_rule_77 rfl ?_
        refine VS_ci1 d_Mod_rule_78 c_Mod_108 (Mod_isSize d) ⟨by decide, by decide⟩ (Nat.le_of_ble_eq_true rfl) ?_
        refine V_if_eq 88 d_Mod_rule_81 (by decide) (fun h81 => ?_) (fun h81 => ?_)
        · refine V_iconst (v := 0) d_Mod_rule_88 (by decide) ?_
          refine V_eqi (show _ = rlb m w h d from (if_neg (fun z => z.2.2.2 h81)).symm) ?_
          exact mg _
        · refine V_iconst (v := 1) d_Mod_rule_84 (by decide) ?_
          refine V_goto 89 d_Mod_rule_85 (by decide) ?_
          refine V_eqi (show _ = rlb m w h d from (if_pos ⟨h60, h67, h74, h81⟩).symm) ?_
          exact mg _
set_option maxRecDepth 100000 in
set_option maxHeartbeats 4000000 in
theorem Mod_rule {l : Launch} {D : va_G} {ac : Nat → ClassId} {o : Nat} {ad : Nat → Nat} {r : RS} (hA : rAD o ad) {L e : Nat} (hL : gF r 8 = nI L) (hL2 : L ≤ 100) (he : gF r 11 = nI e) (he2 : e < 3100) (w h d x : Int32) : RCi l D ac o ad t_Mod_rule [.int w, .int h, .int d, .int x] r (addv r (rlb (rmay (isv r L) x) w h d)) (adds r e (rlb (rmay (isv r L) x) w h d) 2 (run1 x 1 w) (run1 x 2 h) (run1 x 4 d) 0 0) := fun M0 => by
  refine Ct_of (by decide) (Nat.le_of_ble_eq_true rfl) ?_
  have mg := fun m => Mod_rule_57 (l := l) (D := D) (ac := ac) (M0 := M0) hA he he2 m w h d x
  refine V_ar_n d_Mod_rule_0 rfl ?_
  refine VR_ci0 d_Mod_rule_1 c_Mod_104 (Mod_isVertical hA hL hL2) ⟨by decide, by decide⟩ rfl (Nat.le_of_ble_eq_true rfl) ?_
  refine V_if_eq 26 d_Mod_rule_4 (by decide) (fun h4 => ?_) (fun h4 => ?_)
  · refine V_iload d_Mod_rule_26 rfl ?_
    refine V_if_eq 50 d_Mod_rule_28 (by decide) (fun h28 => ?_) (fun h28 => ?_)
    · refine V_iconst (v := 1) d_Mod_rule_50 (by decide) ?_
      refine V_goto 55 d_Mod_rule_51 (by decide) ?_
      refine V_eqi (show _ = rmay (isv r L) x from (show rmay (isv r L) x = 1 by rw [rmay, if_neg (fun z => z h4), if_pos (Or.inl h28)]).symm) ?_
      refine V_istore (lv' := [(5, .int (rmay (isv r L) x)), (0, .ref o), (1, .int w), (2, .int h), (3, .int d), (4, .int x)]) d_Mod_rule_55 (by decide) rfl ?_
      exact mg _
    · refine V_iload d_Mod_rule_31 rfl ?_
      refine V_iconst (v := 2) d_Mod_rule_33 (by decide) ?_
      refine V_icmp_eq 50 d_Mod_rule_34 (by decide) (fun h34 => ?_) (fun h34 => ?_)
      · refine V_iconst (v := 1) d_Mod_rule_50 (by decide) ?_
        refine V_goto 55 d_Mod_rule_51 (by decide) ?_
        refine V_eqi (show _ = rmay (isv r L) x from (show rmay (isv r L) x = 1 by rw [rmay, if_neg (fun z => z h4), if_pos (Or.inr (Or.inl h34))]).symm) ?_
        refine V_istore (lv' := [(5, .int (rmay (isv r L) x)), (0, .ref o), (1, .int w), (2, .int h), (3, .int d), (4, .int x)]) d_Mod_rule_55 (by decide) rfl ?_
        exact mg _
      · refine V_iload d_Mod_rule_37 rfl ?_
        refine V_iconst (v := 4) d_Mod_rule_39 (by decide) ?_
        refine V_icmp_eq 50 d_Mod_rule_40 (by decide) (fun h40 => ?_) (fun h40 => ?_)
        · refine V_iconst (v := 1) d_Mod_rule_50 (by decide) ?_
          refine V_goto 55 d_Mod_rule_51 (by decide) ?_
          refine V_eqi (show _ = rmay (isv r L) x from (show rmay (isv r L) x = 1 by rw [rmay, if_neg (fun z => z h4), if_pos (Or.inr (Or.inr (Or.inl h40)))]).symm) ?_
          refine V_istore (lv' := [(5, .int (rmay (isv r L) x)), (0, .ref o), (1, .int w), (2, .int h), (3, .int d), (4, .int x)]) d_Mod_rule_55 (by decide) rfl ?_
          exact mg _
        · refine V_iload d_Mod_rule_43 rfl ?_
          refine V_bipush (v := 6) d_Mod_rule_45 (by decide) ?_
          refine V_icmp_ne 54 d_Mod_rule_47 (by decide) (fun h47 => ?_) (fun h47 => ?_)
          · refine V_iconst (v := 0) d_Mod_rule_54 (by decide) ?_
            refine V_eqi (show _ = rmay (isv r L) x from (show rmay (isv r L) x = 0 by rw [rmay, if_neg (fun z => z h4), if_neg (fun z => z.elim h28 (fun z => z.elim h34 (fun z => z.elim h40 h47)))]).symm) ?_
            refine V_istore (lv' := [(5, .int (rmay (isv r L) x)), (0, .ref o), (1, .int w), (2, .int h), (3, .int d), (4, .int x)]) d_Mod_rule_55 (by decide) rfl ?_
            exact mg _
          · refine V_iconst (v := 1) d_Mod_rule_50 (by decide) ?_
            refine V_goto 55 d_Mod_rule_51 (by decide) ?_
            refine V_eqi (show _ = rmay (isv r L) x from (show rmay (isv r L) x = 1 by rw [rmay, if_neg (fun z => z h4), if_pos (Or.inr (Or.inr (Or.inr (Classical.not_not.mp h47))))]).symm) ?_
            refine V_istore (lv' := [(5, .int (rmay (isv r L) x)), (0, .ref o), (1, .int w), (2, .int h), (3, .int d), (4, .int x)]) d_Mod_rule_55 (by decide) rfl ?_
            exact mg _
  · refine V_iload d_Mod_rule_7 rfl ?_
    refine V_if_eq 18 d_Mod_rule_9 (by decide) (fun h9 => ?_) (fun h9 => ?_)
    · refine V_iconst (v := 1) d_Mod_rule_18 (by decide) ?_
      refine V_goto 55 d_Mod_rule_19 (by decide) ?_
      refine V_eqi (show _ = rmay (isv r L) x from (show rmay (isv r L) x = 1 by rw [rmay, if_pos h4, if_pos (Or.inl h9)]).symm) ?_
      refine V_istore (lv' := [(5, .int (rmay (isv r L) x)), (0, .ref o), (1, .int w), (2, .int h), (3, .int d), (4, .int x)]) d_Mod_rule_55 (by decide) rfl ?_
      exact mg _
    · refine V_iload d_Mod_rule_12 rfl ?_
      refine V_iconst (v := 1) d_Mod_rule_14 (by decide) ?_
      refine V_icmp_ne 22 d_Mod_rule_15 (by decide) (fun h15 => ?_) (fun h15 => ?_)
      · refine V_iconst (v := 0) d_Mod_rule_22 (by decide) ?_
        refine V_goto 55 d_Mod_rule_23 (by decide) ?_
        refine V_eqi (show _ = rmay (isv r L) x from (show rmay (isv r L) x = 0 by rw [rmay, if_pos h4, if_neg (fun z => z.elim h9 h15)]).symm) ?_
        refine V_istore (lv' := [(5, .int (rmay (isv r L) x)), (0, .ref o), (1, .int w), (2, .int h), (3, .int d), (4, .int x)]) d_Mod_rule_55 (by decide) rfl ?_
        exact mg _
      · refine V_iconst (v := 1) d_Mod_rule_18 (by decide) ?_
        refine V_goto 55 d_Mod_rule_19 (by decide) ?_
        refine V_eqi (show _ = rmay (isv r L) x from (show rmay (isv r L) x = 1 by rw [rmay, if_pos h4, if_pos (Or.inr (Classical.not_not.mp h15))]).symm) ?_
        refine V_istore (lv' := [(5, .int (rmay (isv r L) x)), (0, .ref o), (1, .int w), (2, .int h), (3, .int d), (4, .int x)]) d_Mod_rule_55 (by decide) rfl ?_
        exact mg _
def isf (r : RS) (x : Int32) : Int32 := if ¬ x < 0 ∧ ¬ 8 ≤ x ∧ 0 < gB r 12 x.toNatClampNeg then 1 else 0
theorem nI_8 {x : Int32} (h0 : ¬ x < 0) (h1 : ¬ 8 ≤ x) : ∃ m, m < 8 ∧ x = nI m := by
  obtain ⟨j, hj, e⟩ := nI_of h0
  refine ⟨j, ?_, e⟩
  rcases Nat.lt_or_ge j 8 with q | q
  · exact q
  · exact absurd (by rw [e]; exact nI_le (a := 8) q hj) h1
set_option maxRecDepth 100000 in
set_option maxHeartbeats 4000000 in
theorem Mod_isFull {l : Launch} {D : va_G} {ac : Nat → ClassId} {o : Nat} {ad : Nat → Nat} {r : RS} (hA : rAD o ad) (x : Int32) : RCi l D ac o ad t_Mod_isFull [.int x] r (isf r x) r := fun M0 => by
  refine Ct_of (by decide) (Nat.le_of_ble_eq_true rfl) ?_
  refine V_iload_n d_Mod_isFull_0 rfl ?_
  refine V_if_lt 37 d_Mod_isFull_1 (by decide) (fun h1 => ?_) (fun h1 => ?_)
  · refine V_iconst (v := 0) d_Mod_isFull_37 (by decide) ?_
    exact V_zreturn d_Mod_isFull_38 rfl nz0 ⟨by rw [isf, if_neg (fun z => z.1 h1)], rfl⟩
  · refine V_iload_n d_Mod_isFull_4 rfl ?_
    refine V_bipush (v := 8) d_Mod_isFull_5 (by decide) ?_
    refine V_icmp_ge 37 d_Mod_isFull_7 (by decide) (fun h7 => ?_) (fun h7 => ?_)
    · refine V_iconst (v := 0) d_Mod_isFull_37 (by decide) ?_
      exact V_zreturn d_Mod_isFull_38 rfl nz0 ⟨by rw [isf, if_neg (fun z => z.2.1 h7)], rfl⟩
    · obtain ⟨m, hm, rfl⟩ := nI_8 h1 h7
      refine V_ar_n d_Mod_isFull_10 rfl ?_
      refine VR_geta d_Mod_isFull_11 f_Mod_38 (by decide) ?_
      refine V_iload_n d_Mod_isFull_14 rfl ?_
      refine V_if_lt 28 d_Mod_isFull_15 (by decide) (fun h15 => ?_) (fun h15 => ?_)
      · exact absurd h15 h1
      · refine V_iload_n d_Mod_isFull_18 rfl ?_
        refine V_bipush (v := 8) d_Mod_isFull_19 (by decide) ?_
        refine V_icmp_ge 28 d_Mod_isFull_21 (by decide) (fun h21 => ?_) (fun h21 => ?_)
        · exact absurd h21 h7
        · refine V_iload_n d_Mod_isFull_24 rfl ?_
          refine V_goto 29 d_Mod_isFull_25 (by decide) ?_
          refine VR_iald hA d_Mod_isFull_29 rfl (by omega) (by decide) ?_
          refine V_if_le 37 d_Mod_isFull_30 (by decide) (fun h30 => ?_) (fun h30 => ?_)
          · refine V_iconst (v := 0) d_Mod_isFull_37 (by decide) ?_
            exact V_zreturn d_Mod_isFull_38 rfl nz0 ⟨by rw [isf, if_neg (fun z => absurd h30 (Int32.not_le.mpr (by have z2 := z.2.2; rw [nI_clamp (by omega)] at z2; exact z2)))], rfl⟩
          · refine V_iconst (v := 1) d_Mod_isFull_33 (by decide) ?_
            refine V_goto 38 d_Mod_isFull_34 (by decide) ?_
            exact V_zreturn d_Mod_isFull_38 rfl nz1 ⟨by rw [isf, if_pos ⟨h1, h7, by rw [nI_clamp (by omega)]; exact Int32.not_le.mp h30⟩], rfl⟩
end
section
/-! nested, empty, make -/
/-- whether box j reaches over i -/
def nst1 (r : RS) (i j : Nat) : Nat := if ¬ isb r j = 0 ∧ nI i < nI j + gB r 7 j then 1 else 0
def nstc (r : RS) (a i : Nat) : Nat → Nat
  | 0 => 0
  | n + 1 => nstc r a i n + nst1 r i (a + n)
def nstx (r : RS) (a i : Nat) : Nat := if isb r i = 0 then 0 else nstc r a i (i + 1 - a)
def nstm (r : RS) (a : Nat) : Nat → Nat
  | 0 => 0
  | n + 1 => max (nstm r a n) (nstx r a (a + n))
theorem nst1_le (r : RS) (i j : Nat) : nst1 r i j ≤ 1 := by unfold nst1; split <;> omega
theorem nstc_le (r : RS) (a i n : Nat) : nstc r a i n ≤ n := by
  induction n with
  | zero => exact Nat.le_refl 0
  | succ n ih => have := nst1_le r i (a + n); show nstc r a i n + nst1 r i (a + n) ≤ n + 1; omega
theorem nstx_le (r : RS) (a i : Nat) : nstx r a i ≤ i + 1 - a := by
  unfold nstx
  split
  · omega
  · exact nstc_le r a i _
theorem nstm_le (r : RS) (a n : Nat) : nstm r a n ≤ n := by
  induction n with
  | zero => exact Nat.le_refl 0
  | succ n ih => have := nstx_le r a (a + n); show max (nstm r a n) (nstx r a (a + n)) ≤ n + 1; omega
/-- forward by n places, m items from i on; backward -/
def mvd (n : Nat) : Nat → RS → Nat → RS
  | 0, r, _ => r
  | m + 1, r, i => mvd n m (mv r i (i - n)) (i + 1)
def mvu (n p : Nat) : Nat → RS → RS
  | 0, r => r
  | m + 1, r => mvu n p m (mv r (p + m) (p + m + n))
set_option maxRecDepth 100000 in
set_option maxHeartbeats 4000000 in
theorem Mod_nested_17 {l : Launch} {D : va_G} {ac : Nat → ClassId} {o : Nat} {ad : Nat → Nat} {r : RS} {M0 : MP} (hA : rAD o ad) {a b i q : Nat} (hi : i < b) (hai : a ≤ i) (hb2 : b < 3100) (hb : ¬ isb r i = 0) (hK : V l D (tyl ac) t_Mod_nested 0 0 73 [(6, .int (nI (i + 1))), (5, .int (nI (nstc r a i (i + 1 - a)))), (4, .int (nI i)), (3, .int (nI q)), (0, .ref o), (1, .int (nI a)), (2, .int (nI b))] [] (rM ac o ad r M0) (fun rv M' => rv = some (.int (nI (nstm r a (b - a)))) ∧ M' = rM ac o ad (r) M0)) : ∀ n j : Nat, j + n = i + 1 → a ≤ j → j ≤ i + 1 → V l D (tyl ac) t_Mod_nested 0 0 17 [(6, .int (nI j)), (5, .int (nI (nstc r a i (j - a)))), (4, .int (nI i)), (3, .int (nI q)), (0, .ref o), (1, .int (nI a)), (2, .int (nI b))] [] (rM ac o ad r M0) (fun rv M' => rv = some (.int (nI (nstm r a (b - a)))) ∧ M' = rM ac o ad (r) M0) := by
  intro n
  induction n with
  | zero =>
    intro j h1 h2 h3
    refine V_iload d_Mod_nested_17 rfl ?_
    refine V_iload d_Mod_nested_19 rfl ?_
    refine V_icmp_gt 73 d_Mod_nested_21 (by decide) (fun h21 => ?_) (fun h21 => ?_)
    · have hj : j = i + 1 := by omega
      subst hj
      exact hK
    · exact absurd (nI_lt (show i < j by omega) (by omega)) h21
  | succ n ih =>
    intro j h1 h2 h3
    refine V_iload d_Mod_nested_17 rfl ?_
    refine V_iload d_Mod_nested_19 rfl ?_
    refine V_icmp_gt 73 d_Mod_nested_21 (by decide) (fun h21 => ?_) (fun h21 => ?_)
    · exact absurd h21 (nI_nlt (by omega) (by omega))
    · refine V_ar_n d_Mod_nested_24 rfl ?_
      refine V_iload d_Mod_nested_25 rfl ?_
      refine VR_ci1 d_Mod_nested_27 c_Mod_116 (Mod_isBox hA (by omega)) ⟨by decide, by decide⟩ rfl (Nat.le_of_ble_eq_true rfl) ?_
      refine V_if_eq 73 d_Mod_nested_30 (by decide) (fun h30 => ?_) (fun h30 => ?_)
      · exact absurd h30 hb
      · have mg : ∀ x : Int32, x = nI (nst1 r i j) → V l D (tyl ac) t_Mod_nested 0 0 64 [(6, .int (nI j)), (5, .int (nI (nstc r a i (j - a)))), (4, .int (nI i)), (3, .int (nI q)), (0, .ref o), (1, .int (nI a)), (2, .int (nI b))] [.int x, .int (nI (nstc r a i (j - a)))] (rM ac o ad r M0) (fun rv M' => rv = some (.int (nI (nstm r a (b - a)))) ∧ M' = rM ac o ad (r) M0) := by
          intro x ex
          subst ex
          refine V_iadd d_Mod_nested_64 ?_
          refine V_eqi (show _ = nI (nstc r a i (j + 1 - a)) from by rw [nI_add, show j + 1 - a = (j - a) + 1 by omega]; show _ = nI (nstc r a i (j - a) + nst1 r i (a + (j - a))); rw [show a + (j - a) = j by omega]) ?_
          refine V_istore (lv' := [(5, .int (nI (nstc r a i (j + 1 - a)))), (6, .int (nI j)), (4, .int (nI i)), (3, .int (nI q)), (0, .ref o), (1, .int (nI a)), (2, .int (nI b))]) d_Mod_nested_65 (by decide) rfl ?_
          refine V_iinc (v := nI (j + 1)) (lv' := [(6, .int (nI (j + 1))), (5, .int (nI (nstc r a i (j + 1 - a)))), (4, .int (nI i)), (3, .int (nI q)), (0, .ref o), (1, .int (nI a)), (2, .int (nI b))]) 1 d_Mod_nested_67 rfl (nI_1 j) (by decide) rfl ?_
          refine V_goto 17 d_Mod_nested_70 (by decide) ?_
          exact ih (j + 1) (by omega) (by omega) (by omega)
        refine V_iload d_Mod_nested_33 rfl ?_
        refine V_ar_n d_Mod_nested_35 rfl ?_
        refine V_iload d_Mod_nested_36 rfl ?_
        refine VR_ci1 d_Mod_nested_38 c_Mod_116 (Mod_isBox hA (by omega)) ⟨by decide, by decide⟩ rfl (Nat.le_of_ble_eq_true rfl) ?_
        refine V_if_eq 63 d_Mod_nested_41 (by decide) (fun h41 => ?_) (fun h41 => ?_)
        · refine V_iconst (v := 0) d_Mod_nested_63 (by decide) ?_
          exact mg 0 (by rw [nst1, if_neg (fun z => z.1 h41)]; rfl)
        · refine V_iload d_Mod_nested_44 rfl ?_
          refine V_ar_n d_Mod_nested_46 rfl ?_
          refine VR_geta d_Mod_nested_47 f_Mod_28 (by decide) ?_
          refine V_iload d_Mod_nested_50 rfl ?_
          refine VR_iald hA d_Mod_nested_52 rfl (by omega) (by decide) ?_
          refine V_iadd d_Mod_nested_53 ?_
          refine V_iload d_Mod_nested_54 rfl ?_
          refine V_icmp_le 63 d_Mod_nested_56 (by decide) (fun h56 => ?_) (fun h56 => ?_)
          · refine V_iconst (v := 0) d_Mod_nested_63 (by decide) ?_
            exact mg 0 (by rw [nst1, if_neg (fun z => absurd h56 (Int32.not_le.mpr z.2))]; rfl)
          · refine V_iconst (v := 1) d_Mod_nested_59 (by decide) ?_
            refine V_goto 64 d_Mod_nested_60 (by decide) ?_
            exact mg 1 (by rw [nst1, if_pos ⟨h41, Int32.not_le.mp h56⟩]; rfl)
theorem V_lv {l : Launch} {D : va_G} {tys : TY} {t : MT} {k n pc : Nat} {lv lv' : List (Nat × Value)} {st : List Value} {M : MP} {Q : Option Value → MP → Prop} (ks : List Nat) (hl' : lv_pick lv ks = lv') (h : V l D tys t k n pc lv' st M Q) : V l D tys t k n pc lv st M Q := fun A p e s m args below meth c C k0 n0 H locs cells slots ls hM hS hl hk hn => h A p e s m args below meth c C k0 n0 H locs cells slots ls hM hS (lv_sub hl ks hl') hk hn
set_option maxRecDepth 100000 in
set_option maxHeartbeats 4000000 in
theorem Mod_nested_73 {l : Launch} {D : va_G} {ac : Nat → ClassId} {o : Nat} {ad : Nat → Nat} {r : RS} {M0 : MP} {a b i c : Nat} {x6 : Int32} (hi : i < b) (hai : a ≤ i) (hb2 : b < 3100) (hc : c = nstx r a i) (hK : V l D (tyl ac) t_Mod_nested 0 0 5 [(4, .int (nI (i + 1))), (3, .int (nI (nstm r a (i + 1 - a)))), (0, .ref o), (1, .int (nI a)), (2, .int (nI b))] [] (rM ac o ad r M0) (fun rv M' => rv = some (.int (nI (nstm r a (b - a)))) ∧ M' = rM ac o ad (r) M0)) : V l D (tyl ac) t_Mod_nested 0 0 73 [(6, .int x6), (5, .int (nI c)), (4, .int (nI i)), (3, .int (nI (nstm r a (i - a)))), (0, .ref o), (1, .int (nI a)), (2, .int (nI b))] [] (rM ac o ad r M0) (fun rv M' => rv = some (.int (nI (nstm r a (b - a)))) ∧ M' = rM ac o ad (r) M0) := by
  have hmx : nstm r a (i + 1 - a) = max (nstm r a (i - a)) c := by rw [hc, show i + 1 - a = (i - a) + 1 by omega]; show max _ (nstx r a (a + (i - a))) = _; rw [show a + (i - a) = i by omega]
  have hle := nstm_le r a (i - a)
  have hlx := nstx_le r a i
  refine V_iload d_Mod_nested_73 rfl ?_
  refine V_iload_n d_Mod_nested_75 rfl ?_
  refine V_icmp_le 84 d_Mod_nested_76 (by decide) (fun h76 => ?_) (fun h76 => ?_)
  · have hcm : c ≤ nstm r a (i - a) := (nI_leI (by omega) (by omega)).mp h76
    refine V_iload_n d_Mod_nested_84 rfl ?_
    refine V_eqi (show _ = nI (nstm r a (i + 1 - a)) from by rw [hmx]; congr 1; omega) ?_
    refine V_istore_n (lv' := [(3, .int (nI (nstm r a (i + 1 - a)))), (6, .int x6), (5, .int (nI c)), (4, .int (nI i)), (0, .ref o), (1, .int (nI a)), (2, .int (nI b))]) d_Mod_nested_85 (by decide) rfl ?_
    refine V_iinc (v := nI (i + 1)) (lv' := [(4, .int (nI (i + 1))), (3, .int (nI (nstm r a (i + 1 - a)))), (6, .int x6), (5, .int (nI c)), (0, .ref o), (1, .int (nI a)), (2, .int (nI b))]) 3 d_Mod_nested_86 rfl (nI_1 i) (by decide) rfl ?_
    refine V_goto 5 d_Mod_nested_89 (by decide) ?_
    exact V_lv [0, 1, 4, 5, 6] rfl hK
  · have hcm : nstm r a (i - a) < c := (nI_ltI (by omega) (by omega)).mp (Int32.not_le.mp h76)
    refine V_iload d_Mod_nested_79 rfl ?_
    refine V_goto 85 d_Mod_nested_81 (by decide) ?_
    refine V_eqi (show _ = nI (nstm r a (i + 1 - a)) from by rw [hmx]; congr 1; omega) ?_
    refine V_istore_n (lv' := [(3, .int (nI (nstm r a (i + 1 - a)))), (6, .int x6), (5, .int (nI c)), (4, .int (nI i)), (0, .ref o), (1, .int (nI a)), (2, .int (nI b))]) d_Mod_nested_85 (by decide) rfl ?_
    refine V_iinc (v := nI (i + 1)) (lv' := [(4, .int (nI (i + 1))), (3, .int (nI (nstm r a (i + 1 - a)))), (6, .int x6), (5, .int (nI c)), (0, .ref o), (1, .int (nI a)), (2, .int (nI b))]) 3 d_Mod_nested_86 rfl (nI_1 i) (by decide) rfl ?_
    refine V_goto 5 d_Mod_nested_89 (by decide) ?_
    exact V_lv [0, 1, 4, 5, 6] rfl hK
set_option maxRecDepth 100000 in
set_option maxHeartbeats 4000000 in
theorem Mod_nested_5 {l : Launch} {D : va_G} {ac : Nat → ClassId} {o : Nat} {ad : Nat → Nat} {r : RS} {M0 : MP} (hA : rAD o ad) {a b : Nat} (hb2 : b < 3100) : ∀ n i : Nat, i + n = b → a ≤ i → V l D (tyl ac) t_Mod_nested 0 0 5 [(4, .int (nI i)), (3, .int (nI (nstm r a (i - a)))), (0, .ref o), (1, .int (nI a)), (2, .int (nI b))] [] (rM ac o ad r M0) (fun rv M' => rv = some (.int (nI (nstm r a (b - a)))) ∧ M' = rM ac o ad (r) M0) := by
  intro n
  induction n with
  | zero =>
    intro i h1 h2
    refine V_iload d_Mod_nested_5 rfl ?_
    refine V_iload_n d_Mod_nested_7 rfl ?_
    refine V_icmp_ge 92 d_Mod_nested_8 (by decide) (fun h8 => ?_) (fun h8 => ?_)
    · refine V_iload_n d_Mod_nested_92 rfl ?_
      exact V_ireturn d_Mod_nested_93 rfl ⟨by rw [show i = b by omega], rfl⟩
    · exact absurd (nI_le (show b ≤ i by omega) (by omega)) h8
  | succ n ih =>
    intro i h1 h2
    have hi2 : i < b := by omega
    refine V_iload d_Mod_nested_5 rfl ?_
    refine V_iload_n d_Mod_nested_7 rfl ?_
    refine V_icmp_ge 92 d_Mod_nested_8 (by decide) (fun h8 => ?_) (fun h8 => ?_)
    · exact absurd h8 (nI_ge (by omega) (by omega))
    · have hK := ih (i + 1) (by omega) (by omega)
      refine V_iconst (v := nI 0) d_Mod_nested_11 (by decide) ?_
      refine V_istore (lv' := [(5, .int (nI 0)), (4, .int (nI i)), (3, .int (nI (nstm r a (i - a)))), (0, .ref o), (1, .int (nI a)), (2, .int (nI b))]) d_Mod_nested_12 (by decide) rfl ?_
      refine V_iload_n d_Mod_nested_14 rfl ?_
      refine V_istore (lv' := [(6, .int (nI a)), (5, .int (nI 0)), (4, .int (nI i)), (3, .int (nI (nstm r a (i - a)))), (0, .ref o), (1, .int (nI a)), (2, .int (nI b))]) d_Mod_nested_15 (by decide) rfl ?_
      by_cases hb : isb r i = 0
      · refine V_iload d_Mod_nested_17 rfl ?_
        refine V_iload d_Mod_nested_19 rfl ?_
        refine V_icmp_gt 73 d_Mod_nested_21 (by decide) (fun h21 => ?_) (fun h21 => ?_)
        · exact absurd h21 (nI_nlt (by omega) (by omega))
        · refine V_ar_n d_Mod_nested_24 rfl ?_
          refine V_iload d_Mod_nested_25 rfl ?_
          refine VR_ci1 d_Mod_nested_27 c_Mod_116 (Mod_isBox hA (by omega)) ⟨by decide, by decide⟩ rfl (Nat.le_of_ble_eq_true rfl) ?_
          refine V_if_eq 73 d_Mod_nested_30 (by decide) (fun h30 => ?_) (fun h30 => ?_)
          · exact Mod_nested_73 hi2 (by omega) hb2 (by rw [nstx, if_pos hb]) hK
          · exact absurd hb h30
      · have h73 := Mod_nested_73 (l := l) (D := D) (ac := ac) (o := o) (ad := ad) (M0 := M0) (x6 := nI (i + 1)) hi2 (by omega) hb2 (show nstc r a i (i + 1 - a) = nstx r a i by rw [nstx, if_neg hb]) hK
        have h17 := Mod_nested_17 hA hi2 (by omega) hb2 hb h73 (i + 1 - a) a (by omega) (by omega) (by omega)
        rw [Nat.sub_self] at h17
        exact h17
set_option maxRecDepth 100000 in
set_option maxHeartbeats 4000000 in
theorem Mod_nested {l : Launch} {D : va_G} {ac : Nat → ClassId} {o : Nat} {ad : Nat → Nat} {r : RS} (hA : rAD o ad) {a b : Nat} (hab : a ≤ b) (hb2 : b < 3100) : RCi l D ac o ad t_Mod_nested [.int (nI a), .int (nI b)] r (nI (nstm r a (b - a))) r := fun M0 => by
  refine Ct_of (by decide) (Nat.le_of_ble_eq_true rfl) ?_
  refine V_iconst (v := nI 0) d_Mod_nested_0 (by decide) ?_
  refine V_istore_n (lv' := [(3, .int (nI 0)), (0, .ref o), (1, .int (nI a)), (2, .int (nI b))]) d_Mod_nested_1 (by decide) rfl ?_
  refine V_iload_n d_Mod_nested_2 rfl ?_
  refine V_istore (lv' := [(4, .int (nI a)), (3, .int (nI 0)), (0, .ref o), (1, .int (nI a)), (2, .int (nI b))]) d_Mod_nested_3 (by decide) rfl ?_
  have h5 := Mod_nested_5 (l := l) (D := D) (ac := ac) (r := r) (M0 := M0) hA hb2 (b - a) a (by omega) (Nat.le_refl a)
  rw [Nat.sub_self] at h5
  exact h5
end
section
/-! empty, make, put; bytes of the file -/
theorem sub_ad (x : Int32) {j : Int} {c : Int32} (h : Int32.ofInt j = -c) : x + Int32.ofInt j = x - c := by rw [h, Int32.sub_eq_add_neg]
def emp (r : RS) (p n q k : Nat) : RS := w1 (mvd n (q - (p + n)) r (p + n)) 12 k 0
def mak (r : RS) (p n q k : Nat) : RS := w1 (mvu n p (q - p) r) 12 k (nI n)
def mvc (p e : Nat) : Nat → RS → Nat → RS
  | 0, r, _ => r
  | m + 1, r, i => mvc p e m (mv r (p + i) (e + i)) (i + 1)
theorem mv_F (r : RS) (a b k : Nat) : gF (mv r a b) k = gF r k := rfl
theorem mv1_B (r : RS) {k j : Nat} (a b : Nat) (h : j ≠ k) : gB (mv1 r k a b) j = gB r j := va_up_ne _ _ h
theorem mv_B (r : RS) (a b : Nat) {k : Nat} (h : 7 < k) : gB (mv r a b) k = gB r k := by
  unfold mv
  rw [mv1_B _ _ _ (by omega), mv1_B _ _ _ (by omega), mv1_B _ _ _ (by omega), mv1_B _ _ _ (by omega), mv1_B _ _ _ (by omega), mv1_B _ _ _ (by omega), mv1_B _ _ _ (by omega)]
theorem mvc_F (p e k : Nat) : ∀ (m : Nat) (r : RS) (i : Nat), gF (mvc p e m r i) k = gF r k := by
  intro m
  induction m with
  | zero => intro r i; rfl
  | succ m ih => intro r i; exact ih _ _
theorem mvc_B (p e : Nat) {k : Nat} (h : 7 < k) : ∀ (m : Nat) (r : RS) (i : Nat), gB (mvc p e m r i) k = gB r k := by
  intro m
  induction m with
  | zero => intro r i; rfl
  | succ m ih => intro r i; exact (ih _ _).trans (mv_B _ _ _ h)
/-- byte number c of v, the lowest 0 -/
def byt (v : Int32) (c : Nat) : Int32 := (v >>> (nI (8 * c) &&& 31)).toInt8.toInt32
def wb1 (r : RS) (n : Nat) (x : Int32) : RS := sF (w1 r 17 n x) 18 (nI (n + 1))
def wrt : Nat → RS → Nat → Int32 → RS
  | 0, r, _, _ => r
  | m + 1, r, n, v => wrt m (wb1 r n (byt v m)) (n + 1) v
def wl (r : RS) (n : Nat) : List (Int32 × Nat) → RS
  | [] => r
  | q :: l => wl (wrt q.2 r n q.1) (n + q.2) l
def nums : List (Int32 × Nat) := [(25400000, 4), (473628672, 4), (1000, 4)]
def begl : List (Int32 × Nat) := [(247, 1), (2, 1), (25400000, 4), (473628672, 4), (1000, 4), (0, 1)]
def fonl (r : RS) (k : Nat) : List (Int32 × Nat) := [(243, 1), (nI k, 1), (0, 4), (gB r 13 k, 4), (gB r 14 k, 4), (0, 1), (1, 1), (65 + (nI k - nI k / 26 * 26), 1)]
theorem wrt_len : ∀ (c : Nat) {r : RS} {n : Nat} {v : Int32}, gF r 18 = nI n → gF (wrt c r n v) 18 = nI (n + c) := by
  intro c
  induction c with
  | zero => intro r n v h; exact h
  | succ c ih => intro r n v h; rw [show n + (c + 1) = (n + 1) + c by omega]; exact ih rfl
theorem wrt_F {k : Nat} (hk : k ≠ 18) : ∀ (c : Nat) (r : RS) (n : Nat) (v : Int32), gF (wrt c r n v) k = gF r k := by
  intro c
  induction c with
  | zero => intro r n v; rfl
  | succ c ih => intro r n v; exact (ih _ _ _).trans (va_up_ne _ _ hk)
theorem wrt_B {k : Nat} (hk : k ≠ 17) : ∀ (c : Nat) (r : RS) (n : Nat) (v : Int32), gB (wrt c r n v) k = gB r k := by
  intro c
  induction c with
  | zero => intro r n v; rfl
  | succ c ih => intro r n v; exact (ih _ _ _).trans (va_up_ne _ _ hk)
set_option maxRecDepth 100000 in
set_option maxHeartbeats 4000000 in
theorem Mod_empty_28 {l : Launch} {D : va_G} {ac : Nat → ClassId} {o : Nat} {ad : Nat → Nat} {M0 : MP} (hA : rAD o ad) {p n q k : Nat} (hq : q ≤ 6200) (hk : k < 8) : ∀ (m i : Nat) (r : RS), i + m = q → n ≤ i → V l D (tyl ac) t_Mod_empty 0 0 28 [(5, .int (nI i)), (4, .int (nI q)), (3, .int (nI n)), (2, .int (nI p)), (0, .ref o), (1, .int (nI k))] [] (rM ac o ad r M0) (fun rv M' => rv = none ∧ M' = rM ac o ad (w1 (mvd n m r i) 12 k 0) M0) := by
  intro m
  induction m with
  | zero =>
    intro i r h1 h2
    refine V_iload d_Mod_empty_28 rfl ?_
    refine V_iload d_Mod_empty_30 rfl ?_
    refine V_icmp_ge 51 d_Mod_empty_32 (by decide) (fun h32 => ?_) (fun h32 => ?_)
    · refine V_ar_n d_Mod_empty_51 rfl ?_
      refine VR_geta d_Mod_empty_52 f_Mod_38 (by decide) ?_
      refine V_iload_n d_Mod_empty_55 rfl ?_
      refine V_iconst (v := 0) d_Mod_empty_56 (by decide) ?_
      refine VR_iast hA d_Mod_empty_57 rfl (by omega) (by decide) ?_
      exact V_return d_Mod_empty_58 rfl ⟨rfl, rfl⟩
    · exact absurd (nI_le (show q ≤ i by omega) (by omega)) h32
  | succ m ih =>
    intro i r h1 h2
    refine V_iload d_Mod_empty_28 rfl ?_
    refine V_iload d_Mod_empty_30 rfl ?_
    refine V_icmp_ge 51 d_Mod_empty_32 (by decide) (fun h32 => ?_) (fun h32 => ?_)
    · exact absurd h32 (nI_ge (by omega) (by omega))
    · refine V_ar_n d_Mod_empty_35 rfl ?_
      refine V_iload d_Mod_empty_36 rfl ?_
      refine V_iload d_Mod_empty_38 rfl ?_
      refine V_iload_n d_Mod_empty_40 rfl ?_
      refine V_isub d_Mod_empty_41 ?_
      refine V_eqi (pk_sub h2) ?_
      refine VR_cv2 d_Mod_empty_42 c_Mod_123 (Mod_move hA (by omega) (by omega)) ⟨by decide, by decide⟩ rfl (Nat.le_of_ble_eq_true rfl) ?_
      refine V_iinc (v := nI (i + 1)) (lv' := [(5, .int (nI (i + 1))), (4, .int (nI q)), (3, .int (nI n)), (2, .int (nI p)), (0, .ref o), (1, .int (nI k))]) 0 d_Mod_empty_45 rfl (nI_1 i) (by decide) rfl ?_
      refine V_goto 28 d_Mod_empty_48 (by decide) ?_
      exact ih (i + 1) _ (by omega) (by omega)
set_option maxRecDepth 100000 in
set_option maxHeartbeats 4000000 in
theorem Mod_empty {l : Launch} {D : va_G} {ac : Nat → ClassId} {o : Nat} {ad : Nat → Nat} {r : RS} (hA : rAD o ad) {p n q k : Nat} (hst : stt r k = nI p) (hsz : gB r 12 k = nI n) (hall : 3100 + shv r = nI q) (hpq : p + n ≤ q) (hq : q ≤ 6200) (hk : k < 8) : RCv l D ac o ad t_Mod_empty [.int (nI k)] r (emp r p n q k) := fun M0 => by
  refine Ct_of (by decide) (Nat.le_of_ble_eq_true rfl) ?_
  refine V_ar_n d_Mod_empty_0 rfl ?_
  refine V_iload_n d_Mod_empty_1 rfl ?_
  refine VR_ci1 d_Mod_empty_2 c_Mod_119 (Mod_start hA (by omega)) ⟨by decide, by decide⟩ rfl (Nat.le_of_ble_eq_true rfl) ?_
  refine V_eqi (show _ = nI p from hst) ?_
  refine V_istore_n (lv' := [(2, .int (nI p)), (0, .ref o), (1, .int (nI k))]) d_Mod_empty_5 (by decide) rfl ?_
  refine V_ar_n d_Mod_empty_6 rfl ?_
  refine VR_geta d_Mod_empty_7 f_Mod_38 (by decide) ?_
  refine V_iload_n d_Mod_empty_10 rfl ?_
  refine VR_iald hA d_Mod_empty_11 rfl (by omega) (by decide) ?_
  refine V_eqi (show _ = nI n from hsz) ?_
  refine V_istore_n (lv' := [(3, .int (nI n)), (2, .int (nI p)), (0, .ref o), (1, .int (nI k))]) d_Mod_empty_12 (by decide) rfl ?_
  refine V_sipush (v := 3100) d_Mod_empty_13 (by decide) ?_
  refine V_ar_n d_Mod_empty_16 rfl ?_
  refine VR_ci0 d_Mod_empty_17 c_Mod_93 (Mod_shelved hA) ⟨by decide, by decide⟩ rfl (Nat.le_of_ble_eq_true rfl) ?_
  refine V_iadd d_Mod_empty_20 ?_
  refine V_eqi (show _ = nI q from hall) ?_
  refine V_istore (lv' := [(4, .int (nI q)), (3, .int (nI n)), (2, .int (nI p)), (0, .ref o), (1, .int (nI k))]) d_Mod_empty_21 (by decide) rfl ?_
  refine V_iload_n d_Mod_empty_23 rfl ?_
  refine V_iload_n d_Mod_empty_24 rfl ?_
  refine V_iadd d_Mod_empty_25 ?_
  refine V_eqi (nI_add p n) ?_
  refine V_istore (lv' := [(5, .int (nI (p + n))), (4, .int (nI q)), (3, .int (nI n)), (2, .int (nI p)), (0, .ref o), (1, .int (nI k))]) d_Mod_empty_26 (by decide) rfl ?_
  exact Mod_empty_28 hA hq hk (q - (p + n)) (p + n) r (by omega) (by omega)
set_option maxRecDepth 100000 in
set_option maxHeartbeats 4000000 in
theorem Mod_make_18 {l : Launch} {D : va_G} {ac : Nat → ClassId} {o : Nat} {ad : Nat → Nat} {M0 : MP} (hA : rAD o ad) {p n k : Nat} (hp : 0 < p) (hk : k < 8) : ∀ (m : Nat) (r : RS), p + m + n ≤ 6200 → V l D (tyl ac) t_Mod_make 0 0 18 [(4, .int (nI (p + m) - 1)), (3, .int (nI p)), (0, .ref o), (1, .int (nI k)), (2, .int (nI n))] [] (rM ac o ad r M0) (fun rv M' => rv = none ∧ M' = rM ac o ad (w1 (mvu n p m r) 12 k (nI n)) M0) := by
  intro m
  induction m with
  | zero =>
    intro r h1
    refine V_iload d_Mod_make_18 rfl ?_
    refine V_iload_n d_Mod_make_20 rfl ?_
    refine V_icmp_lt 40 d_Mod_make_21 (by decide) (fun h21 => ?_) (fun h21 => ?_)
    · refine V_ar_n d_Mod_make_40 rfl ?_
      refine VR_geta d_Mod_make_41 f_Mod_38 (by decide) ?_
      refine V_iload_n d_Mod_make_44 rfl ?_
      refine V_iload_n d_Mod_make_45 rfl ?_
      refine VR_iast hA d_Mod_make_46 rfl (by omega) (by decide) ?_
      exact V_return d_Mod_make_47 rfl ⟨rfl, rfl⟩
    · exact absurd (show nI (p + 0) - 1 < nI p from by rw [show p + 0 = (p - 1) + 1 by omega, nI_pred]; exact nI_lt (by omega) (by omega)) h21
  | succ m ih =>
    intro r h1
    rw [show nI (p + (m + 1)) - 1 = nI (p + m) from nI_pred (p + m)]
    refine V_iload d_Mod_make_18 rfl ?_
    refine V_iload_n d_Mod_make_20 rfl ?_
    refine V_icmp_lt 40 d_Mod_make_21 (by decide) (fun h21 => ?_) (fun h21 => ?_)
    · exact absurd h21 (nI_nlt (by omega) (by omega))
    · refine V_ar_n d_Mod_make_24 rfl ?_
      refine V_iload d_Mod_make_25 rfl ?_
      refine V_iload d_Mod_make_27 rfl ?_
      refine V_iload_n d_Mod_make_29 rfl ?_
      refine V_iadd d_Mod_make_30 ?_
      refine V_eqi (nI_add (p + m) n) ?_
      refine VR_cv2 d_Mod_make_31 c_Mod_123 (Mod_move hA (by omega) (by omega)) ⟨by decide, by decide⟩ rfl (Nat.le_of_ble_eq_true rfl) ?_
      refine V_iinc (v := nI (p + m) - 1) (lv' := [(4, .int (nI (p + m) - 1)), (3, .int (nI p)), (0, .ref o), (1, .int (nI k)), (2, .int (nI n))]) 0 d_Mod_make_34 rfl (sub_ad _ (by decide)) (by decide) rfl ?_
      refine V_goto 18 d_Mod_make_37 (by decide) ?_
      exact ih _ (by omega)
set_option maxRecDepth 100000 in
set_option maxHeartbeats 4000000 in
theorem Mod_make {l : Launch} {D : va_G} {ac : Nat → ClassId} {o : Nat} {ad : Nat → Nat} {r : RS} (hA : rAD o ad) {p n q k : Nat} (hst : stt r k = nI p) (hall : 3100 + shv r = nI q) (hp : 0 < p) (hpq : p ≤ q) (hq : q + n ≤ 6200) (hk : k < 8) : RCv l D ac o ad t_Mod_make [.int (nI k), .int (nI n)] r (mak r p n q k) := fun M0 => by
  refine Ct_of (by decide) (Nat.le_of_ble_eq_true rfl) ?_
  refine V_ar_n d_Mod_make_0 rfl ?_
  refine V_iload_n d_Mod_make_1 rfl ?_
  refine VR_ci1 d_Mod_make_2 c_Mod_119 (Mod_start hA (by omega)) ⟨by decide, by decide⟩ rfl (Nat.le_of_ble_eq_true rfl) ?_
  refine V_eqi (show _ = nI p from hst) ?_
  refine V_istore_n (lv' := [(3, .int (nI p)), (0, .ref o), (1, .int (nI k)), (2, .int (nI n))]) d_Mod_make_5 (by decide) rfl ?_
  refine V_sipush (v := 3100) d_Mod_make_6 (by decide) ?_
  refine V_ar_n d_Mod_make_9 rfl ?_
  refine VR_ci0 d_Mod_make_10 c_Mod_93 (Mod_shelved hA) ⟨by decide, by decide⟩ rfl (Nat.le_of_ble_eq_true rfl) ?_
  refine V_iadd d_Mod_make_13 ?_
  refine V_eqi (show _ = nI (p + (q - p)) from by rw [show p + (q - p) = q by omega]; exact hall) ?_
  refine V_iconst (v := 1) d_Mod_make_14 (by decide) ?_
  refine V_isub d_Mod_make_15 ?_
  refine V_istore (lv' := [(4, .int (nI (p + (q - p)) - 1)), (3, .int (nI p)), (0, .ref o), (1, .int (nI k)), (2, .int (nI n))]) d_Mod_make_16 (by decide) rfl ?_
  exact Mod_make_18 hA hp hk (q - p) r (by omega)
set_option maxRecDepth 100000 in
set_option maxHeartbeats 4000000 in
theorem Mod_write_7 {l : Launch} {D : va_G} {ac : Nat → ClassId} {o : Nat} {ad : Nat → Nat} {M0 : MP} (hA : rAD o ad) {c : Nat} {v : Int32} : ∀ (m n : Nat) (r : RS), gF r 18 = nI n → m ≤ 4 ∧ n + m ≤ 320000 → V l D (tyl ac) t_Mod_write 0 0 7 [(3, .int (nI (8 * m) - 8)), (0, .ref o), (1, .int v), (2, .int (nI c))] [] (rM ac o ad r M0) (fun rv M' => rv = none ∧ M' = rM ac o ad (wrt m r n v) M0) := by
  intro m
  induction m with
  | zero =>
    intro n r hn hb
    refine V_iload_n d_Mod_write_7 rfl ?_
    refine V_if_lt 40 d_Mod_write_8 (by decide) (fun h8 => ?_) (fun h8 => ?_)
    · exact V_return d_Mod_write_40 rfl ⟨rfl, rfl⟩
    · exact absurd (by decide) h8
  | succ m ih =>
    intro n r hn hb
    rw [show nI (8 * (m + 1)) - 8 = nI (8 * m) from pk_sub (b := 8) (by omega)]
    refine V_iload_n d_Mod_write_7 rfl ?_
    refine V_if_lt 40 d_Mod_write_8 (by decide) (fun h8 => ?_) (fun h8 => ?_)
    · exact absurd h8 (nI_pos (by omega))
    · refine V_ar_n d_Mod_write_11 rfl ?_
      refine VR_geta d_Mod_write_12 f_Mod_54 (by decide) ?_
      refine V_ar_n d_Mod_write_15 rfl ?_
      refine VR_geti d_Mod_write_16 f_Mod_145 (by decide) ?_
      refine V_eqi (show _ = nI n from hn) ?_
      refine V_iload_n d_Mod_write_19 rfl ?_
      refine V_iload_n d_Mod_write_20 rfl ?_
      refine V_ishr d_Mod_write_21 ?_
      refine V_i2b d_Mod_write_22 ?_
      refine VR_bast hA d_Mod_write_23 rfl (by omega) (by decide) ?_
      refine V_ar_n d_Mod_write_24 rfl ?_
      refine V_dup d_Mod_write_25 rfl ?_
      refine VR_geti d_Mod_write_26 f_Mod_145 (by decide) ?_
      refine V_eqi (show _ = nI n from hn) ?_
      refine V_iconst (v := 1) d_Mod_write_29 (by decide) ?_
      refine V_iadd d_Mod_write_30 ?_
      refine V_eqi (nI_1 n) ?_
      refine VR_puti d_Mod_write_31 f_Mod_145 (by decide) ?_
      refine V_iinc (v := nI (8 * m) - 8) (lv' := [(3, .int (nI (8 * m) - 8)), (0, .ref o), (1, .int v), (2, .int (nI c))]) 0 d_Mod_write_34 rfl (sub_ad _ (by decide)) (by decide) rfl ?_
      refine V_goto 7 d_Mod_write_37 (by decide) ?_
      rw [pk_vb]
      exact ih (n + 1) (wb1 r n (byt v m)) rfl (by omega)
theorem wr8 (c : Nat) : nI 8 * (nI c - 1) = nI (8 * c) - 8 := by
  rw [show (1 : Int32) = nI 1 from rfl, Int32.mul_sub, pk_mul, pk_mul]; rfl
set_option maxRecDepth 100000 in
set_option maxHeartbeats 4000000 in
theorem Mod_write {l : Launch} {D : va_G} {ac : Nat → ClassId} {o : Nat} {ad : Nat → Nat} {r : RS} (hA : rAD o ad) {c n : Nat} (v : Int32) (hn : gF r 18 = nI n) (hc : c ≤ 4) (hb : n + c ≤ 320000) : RCv l D ac o ad t_Mod_write [.int v, .int (nI c)] r (wrt c r n v) := fun M0 => by
  refine Ct_of (by decide) (Nat.le_of_ble_eq_true rfl) ?_
  refine V_bipush (v := nI 8) d_Mod_write_0 (by decide) ?_
  refine V_iload_n d_Mod_write_2 rfl ?_
  refine V_iconst (v := 1) d_Mod_write_3 (by decide) ?_
  refine V_isub d_Mod_write_4 ?_
  refine V_imul d_Mod_write_5 ?_
  refine V_eqi (show _ = nI (8 * c) - 8 from wr8 c) ?_
  refine V_istore_n (lv' := [(3, .int (nI (8 * c) - 8)), (0, .ref o), (1, .int v), (2, .int (nI c))]) d_Mod_write_6 (by decide) rfl ?_
  exact Mod_write_7 hA c n r hn ⟨hc, hb⟩
end
section
/-! put; what is written in pieces -/
abbrev pok (r : RS) (x s c : Int32) : Prop := ¬ gF r 8 = 0 ∧ ¬ isf r x = 0 ∧ ¬ isz s = 0 ∧ (c = 0 ∨ ¬ hrm r (gB r 12 x.toNatClampNeg) = 0)
def puts1 (r : RS) (p n e : Nat) (s : Int32) : RS := sF (w1 (mvc p e n (sF r 0 0) 0) 5 e s) 11 (nI (e + n))
def puts (r : RS) (k p n q e : Nat) (s c : Int32) : RS := if c = 0 then emp (puts1 r p n e s) p n q k else puts1 r p n e s
theorem isf_of {r : RS} {x : Int32} (h : ¬ isf r x = 0) : ∃ k, k < 8 ∧ x = nI k := by
  unfold isf at h
  by_cases hc : ¬ x < 0 ∧ ¬ 8 ≤ x ∧ 0 < gB r 12 x.toNatClampNeg
  · exact nI_8 hc.1 hc.2.1
  · rw [if_neg hc] at h
    exact absurd rfl h
theorem puts1_12 (r : RS) (p n e : Nat) (s : Int32) : gB (puts1 r p n e s) 12 = gB r 12 := (mvc_B p e (k := 12) (by omega) n (sF r 0 0) 0)
set_option maxRecDepth 100000 in
set_option maxHeartbeats 4000000 in
theorem Mod_put_64 {l : Launch} {D : va_G} {ac : Nat → ClassId} {o : Nat} {ad : Nat → Nat} {M0 : MP} {Q : Option Value → MP → Prop} (hA : rAD o ad) {p n e : Nat} {x s c : Int32} (hp : p + n ≤ 6200) (he2 : e + n ≤ 6200) : ∀ (m i : Nat) (r : RS), i + m = n → gF r 11 = nI e → V l D (tyl ac) t_Mod_put 0 0 93 [(6, .int (nI n)), (5, .int (nI n)), (4, .int (nI p)), (0, .ref o), (1, .int x), (2, .int s), (3, .int c)] [] (rM ac o ad (mvc p e m r i) M0) Q → V l D (tyl ac) t_Mod_put 0 0 64 [(6, .int (nI i)), (5, .int (nI n)), (4, .int (nI p)), (0, .ref o), (1, .int x), (2, .int s), (3, .int c)] [] (rM ac o ad (r) M0) Q := by
  intro m
  induction m with
  | zero =>
    intro i r h1 he hK
    refine V_iload d_Mod_put_64 rfl ?_
    refine V_iload d_Mod_put_66 rfl ?_
    refine V_icmp_ge 93 d_Mod_put_68 (by decide) (fun h68 => ?_) (fun h68 => ?_)
    · have hi : i = n := by omega
      subst hi
      exact hK
    · exact absurd (nI_le (show n ≤ i by omega) (by omega)) h68
  | succ m ih =>
    intro i r h1 he hK
    refine V_iload d_Mod_put_64 rfl ?_
    refine V_iload d_Mod_put_66 rfl ?_
    refine V_icmp_ge 93 d_Mod_put_68 (by decide) (fun h68 => ?_) (fun h68 => ?_)
    · exact absurd h68 (nI_ge (by omega) (by omega))
    · refine V_ar_n d_Mod_put_71 rfl ?_
      refine V_iload d_Mod_put_72 rfl ?_
      refine V_iload d_Mod_put_74 rfl ?_
      refine V_iadd d_Mod_put_76 ?_
      refine V_eqi (nI_add p i) ?_
      refine V_ar_n d_Mod_put_77 rfl ?_
      refine VR_geti d_Mod_put_78 f_Mod_90 (by decide) ?_
      refine V_eqi (show _ = nI e from he) ?_
      refine V_iload d_Mod_put_81 rfl ?_
      refine V_iadd d_Mod_put_83 ?_
      refine V_eqi (nI_add e i) ?_
      refine VR_cv2 d_Mod_put_84 c_Mod_123 (Mod_move hA (by omega) (by omega)) ⟨by decide, by decide⟩ rfl (Nat.le_of_ble_eq_true rfl) ?_
      refine V_iinc (v := nI (i + 1)) (lv' := [(6, .int (nI (i + 1))), (5, .int (nI n)), (4, .int (nI p)), (0, .ref o), (1, .int x), (2, .int s), (3, .int c)]) 0 d_Mod_put_87 rfl (nI_1 i) (by decide) rfl ?_
      refine V_goto 64 d_Mod_put_90 (by decide) ?_
      exact ih (i + 1) _ (by omega) he hK
set_option maxRecDepth 100000 in
set_option maxHeartbeats 4000000 in
theorem Mod_put {l : Launch} {D : va_G} {ac : Nat → ClassId} {o : Nat} {ad : Nat → Nat} {r : RS} (hA : rAD o ad) {k p n q e : Nat} {x s c : Int32} (hy : pok r x s c → x = nI k ∧ k < 8 ∧ stt r k = nI p ∧ gB r 12 k = nI n ∧ 3100 + shv r = nI q ∧ p + n ≤ q ∧ q ≤ 6100 ∧ gF r 11 = nI e ∧ e + n ≤ 3100) : RCi l D ac o ad t_Mod_put [.int x, .int s, .int c] r (if pok r x s c then 1 else 0) (if pok r x s c then puts r k p n q e s c else sF r 0 0) := fun M0 => by
  refine Ct_of (by decide) (Nat.le_of_ble_eq_true rfl) ?_
  refine V_ar_n d_Mod_put_0 rfl ?_
  refine V_iconst (v := 0) d_Mod_put_1 (by decide) ?_
  refine VR_puti d_Mod_put_2 f_Mod_81 (by decide) ?_
  refine V_ar_n d_Mod_put_5 rfl ?_
  refine VR_geti d_Mod_put_6 f_Mod_97 (by decide) ?_
  refine V_if_eq 44 d_Mod_put_9 (by decide) (fun h9 => ?_) (fun h9 => ?_)
  · refine V_iconst (v := 0) d_Mod_put_44 (by decide) ?_
    exact V_zreturn d_Mod_put_45 rfl nz0 ⟨by rw [if_neg (fun z => z.1 h9)], by rw [if_neg (fun z => z.1 h9)]⟩
  · refine V_ar_n d_Mod_put_12 rfl ?_
    refine V_iload_n d_Mod_put_13 rfl ?_
    refine VR_ci1 d_Mod_put_14 c_Mod_142 (Mod_isFull hA x) ⟨by decide, by decide⟩ rfl (Nat.le_of_ble_eq_true rfl) ?_
    refine V_if_eq 44 d_Mod_put_17 (by decide) (fun h17 => ?_) (fun h17 => ?_)
    · refine V_iconst (v := 0) d_Mod_put_44 (by decide) ?_
      exact V_zreturn d_Mod_put_45 rfl nz0 ⟨by rw [if_neg (fun z => z.2.1 h17)], by rw [if_neg (fun z => z.2.1 h17)]⟩
    · refine V_iload_n d_Mod_put_20 rfl ?_
      refine VS_ci1 d_Mod_put_21 c_Mod_108 (Mod_isSize s) ⟨by decide, by decide⟩ (Nat.le_of_ble_eq_true rfl) ?_
      refine V_if_eq 44 d_Mod_put_24 (by decide) (fun h24 => ?_) (fun h24 => ?_)
      · refine V_iconst (v := 0) d_Mod_put_44 (by decide) ?_
        exact V_zreturn d_Mod_put_45 rfl nz0 ⟨by rw [if_neg (fun z => z.2.2.1 h24)], by rw [if_neg (fun z => z.2.2.1 h24)]⟩
      · refine V_iload_n d_Mod_put_27 rfl ?_
        refine V_if_eq 46 d_Mod_put_28 (by decide) (fun h28 => ?_) (fun h28 => ?_)
        · have hok : pok r x s c := ⟨h9, h17, h24, Or.inl h28⟩
          obtain ⟨hx, hk, hst, hsz, hall, hpq, hq, he, he2⟩ := hy hok
          subst hx
          refine V_ar_n d_Mod_put_46 rfl ?_
          refine V_iload_n d_Mod_put_47 rfl ?_
          refine VR_ci1 d_Mod_put_48 c_Mod_119 (Mod_start hA (by omega)) ⟨by decide, by decide⟩ rfl (Nat.le_of_ble_eq_true rfl) ?_
          refine V_eqi (show _ = nI p from hst) ?_
          refine V_istore (lv' := [(4, .int (nI p)), (0, .ref o), (1, .int (nI k)), (2, .int s), (3, .int c)]) d_Mod_put_51 (by decide) rfl ?_
          refine V_ar_n d_Mod_put_53 rfl ?_
          refine VR_geta d_Mod_put_54 f_Mod_38 (by decide) ?_
          refine V_iload_n d_Mod_put_57 rfl ?_
          refine VR_iald hA d_Mod_put_58 rfl (by omega) (by decide) ?_
          refine V_eqi (show _ = nI n from hsz) ?_
          refine V_istore (lv' := [(5, .int (nI n)), (4, .int (nI p)), (0, .ref o), (1, .int (nI k)), (2, .int s), (3, .int c)]) d_Mod_put_59 (by decide) rfl ?_
          refine V_iconst (v := nI 0) d_Mod_put_61 (by decide) ?_
          refine V_istore (lv' := [(6, .int (nI 0)), (5, .int (nI n)), (4, .int (nI p)), (0, .ref o), (1, .int (nI k)), (2, .int s), (3, .int c)]) d_Mod_put_62 (by decide) rfl ?_
          refine Mod_put_64 hA (by omega) (by omega) n 0 _ (by omega) he ?_
          refine V_ar_n d_Mod_put_93 rfl ?_
          refine VR_geta d_Mod_put_94 f_Mod_22 (by decide) ?_
          refine V_ar_n d_Mod_put_97 rfl ?_
          refine VR_geti d_Mod_put_98 f_Mod_90 (by decide) ?_
          refine V_eqi (show _ = nI e from (mvc_F p e 11 n (sF r 0 0) 0).trans he) ?_
          refine V_iload_n d_Mod_put_101 rfl ?_
          refine VR_iast hA d_Mod_put_102 rfl (by omega) (by decide) ?_
          refine V_ar_n d_Mod_put_103 rfl ?_
          refine V_dup d_Mod_put_104 rfl ?_
          refine VR_geti d_Mod_put_105 f_Mod_90 (by decide) ?_
          refine V_eqi (show _ = nI e from (mvc_F p e 11 n (sF r 0 0) 0).trans he) ?_
          refine V_iload d_Mod_put_108 rfl ?_
          refine V_iadd d_Mod_put_110 ?_
          refine V_eqi (nI_add e n) ?_
          refine VR_puti d_Mod_put_111 f_Mod_90 (by decide) ?_
          refine V_iload_n d_Mod_put_114 rfl ?_
          refine V_if_ne 123 d_Mod_put_115 (by decide) (fun h115 => ?_) (fun h115 => ?_)
          · refine V_iconst (v := 1) d_Mod_put_123 (by decide) ?_
            exact V_zreturn d_Mod_put_124 rfl nz1 ⟨by rw [if_pos hok], by rw [if_pos hok, puts, if_neg h115]; rfl⟩
          · have h12 := puts1_12 r p n e s
            refine V_ar_n d_Mod_put_118 rfl ?_
            refine V_iload_n d_Mod_put_119 rfl ?_
            refine VR_cv1 d_Mod_put_120 c_Mod_135 (Mod_empty (r := puts1 r p n e s) hA (by unfold stt; rw [h12]; exact hst) (by rw [h12]; exact hsz) (by unfold shv; rw [h12]; exact hall) hpq (by omega) hk) ⟨by decide, by decide⟩ rfl (Nat.le_of_ble_eq_true rfl) ?_
            refine V_iconst (v := 1) d_Mod_put_123 (by decide) ?_
            exact V_zreturn d_Mod_put_124 rfl nz1 ⟨by rw [if_pos hok], by rw [if_pos hok, puts, if_pos (Classical.not_not.mp h115)]⟩
        · obtain ⟨k1, hk1, ex⟩ := isf_of h17
          have hcl : x.toNatClampNeg = k1 := by rw [ex]; exact nI_clamp (by omega)
          refine V_ar_n d_Mod_put_31 rfl ?_
          refine V_ar_n d_Mod_put_32 rfl ?_
          refine VR_geta d_Mod_put_33 f_Mod_38 (by decide) ?_
          refine V_iload_n d_Mod_put_36 rfl ?_
          refine V_eqi ex ?_
          refine VR_iald hA d_Mod_put_37 rfl (by omega) (by decide) ?_
          refine VR_ci1 d_Mod_put_38 c_Mod_100 (Mod_hasRoom hA _) ⟨by decide, by decide⟩ rfl (Nat.le_of_ble_eq_true rfl) ?_
          refine V_if_ne 46 d_Mod_put_41 (by decide) (fun h41 => ?_) (fun h41 => ?_)
          · have hok : pok r x s c := ⟨h9, h17, h24, Or.inr (by rw [hcl]; exact h41)⟩
            obtain ⟨hx, hk, hst, hsz, hall, hpq, hq, he, he2⟩ := hy hok
            subst hx
            refine V_ar_n d_Mod_put_46 rfl ?_
            refine V_iload_n d_Mod_put_47 rfl ?_
            refine VR_ci1 d_Mod_put_48 c_Mod_119 (Mod_start hA (by omega)) ⟨by decide, by decide⟩ rfl (Nat.le_of_ble_eq_true rfl) ?_
            refine V_eqi (show _ = nI p from hst) ?_
            refine V_istore (lv' := [(4, .int (nI p)), (0, .ref o), (1, .int (nI k)), (2, .int s), (3, .int c)]) d_Mod_put_51 (by decide) rfl ?_
            refine V_ar_n d_Mod_put_53 rfl ?_
            refine VR_geta d_Mod_put_54 f_Mod_38 (by decide) ?_
            refine V_iload_n d_Mod_put_57 rfl ?_
            refine VR_iald hA d_Mod_put_58 rfl (by omega) (by decide) ?_
            refine V_eqi (show _ = nI n from hsz) ?_
            refine V_istore (lv' := [(5, .int (nI n)), (4, .int (nI p)), (0, .ref o), (1, .int (nI k)), (2, .int s), (3, .int c)]) d_Mod_put_59 (by decide) rfl ?_
            refine V_iconst (v := nI 0) d_Mod_put_61 (by decide) ?_
            refine V_istore (lv' := [(6, .int (nI 0)), (5, .int (nI n)), (4, .int (nI p)), (0, .ref o), (1, .int (nI k)), (2, .int s), (3, .int c)]) d_Mod_put_62 (by decide) rfl ?_
            refine Mod_put_64 hA (by omega) (by omega) n 0 _ (by omega) he ?_
            refine V_ar_n d_Mod_put_93 rfl ?_
            refine VR_geta d_Mod_put_94 f_Mod_22 (by decide) ?_
            refine V_ar_n d_Mod_put_97 rfl ?_
            refine VR_geti d_Mod_put_98 f_Mod_90 (by decide) ?_
            refine V_eqi (show _ = nI e from (mvc_F p e 11 n (sF r 0 0) 0).trans he) ?_
            refine V_iload_n d_Mod_put_101 rfl ?_
            refine VR_iast hA d_Mod_put_102 rfl (by omega) (by decide) ?_
            refine V_ar_n d_Mod_put_103 rfl ?_
            refine V_dup d_Mod_put_104 rfl ?_
            refine VR_geti d_Mod_put_105 f_Mod_90 (by decide) ?_
            refine V_eqi (show _ = nI e from (mvc_F p e 11 n (sF r 0 0) 0).trans he) ?_
            refine V_iload d_Mod_put_108 rfl ?_
            refine V_iadd d_Mod_put_110 ?_
            refine V_eqi (nI_add e n) ?_
            refine VR_puti d_Mod_put_111 f_Mod_90 (by decide) ?_
            refine V_iload_n d_Mod_put_114 rfl ?_
            refine V_if_ne 123 d_Mod_put_115 (by decide) (fun h115 => ?_) (fun h115 => ?_)
            · refine V_iconst (v := 1) d_Mod_put_123 (by decide) ?_
              exact V_zreturn d_Mod_put_124 rfl nz1 ⟨by rw [if_pos hok], by rw [if_pos hok, puts, if_neg h115]; rfl⟩
            · have h12 := puts1_12 r p n e s
              refine V_ar_n d_Mod_put_118 rfl ?_
              refine V_iload_n d_Mod_put_119 rfl ?_
              refine VR_cv1 d_Mod_put_120 c_Mod_135 (Mod_empty (r := puts1 r p n e s) hA (by unfold stt; rw [h12]; exact hst) (by rw [h12]; exact hsz) (by unfold shv; rw [h12]; exact hall) hpq (by omega) hk) ⟨by decide, by decide⟩ rfl (Nat.le_of_ble_eq_true rfl) ?_
              refine V_iconst (v := 1) d_Mod_put_123 (by decide) ?_
              exact V_zreturn d_Mod_put_124 rfl nz1 ⟨by rw [if_pos hok], by rw [if_pos hok, puts, if_pos (Classical.not_not.mp h115)]⟩
          · refine V_iconst (v := 0) d_Mod_put_44 (by decide) ?_
            exact V_zreturn d_Mod_put_45 rfl nz0 ⟨by rw [if_neg (fun z => z.2.2.2.elim h28 (fun y => h41 (by rw [hcl] at y; exact y)))], by rw [if_neg (fun z => z.2.2.2.elim h28 (fun y => h41 (by rw [hcl] at y; exact y)))]⟩
set_option maxRecDepth 100000 in
set_option maxHeartbeats 4000000 in
theorem Mod_writeNumbers {l : Launch} {D : va_G} {ac : Nat → ClassId} {o : Nat} {ad : Nat → Nat} {r : RS} (hA : rAD o ad) {n : Nat} (hn : gF r 18 = nI n) (hb : n + 12 ≤ 320000) : RCv l D ac o ad t_Mod_writeNumbers [] r (wl r n nums) := fun M0 => by
  refine Ct_of (by decide) (Nat.le_of_ble_eq_true rfl) ?_
  refine V_ar_n d_Mod_writeNumbers_0 rfl ?_
  refine V_ldc d_Mod_writeNumbers_1 k_Mod_148 ?_
  refine V_iconst (v := nI 4) d_Mod_writeNumbers_3 (by decide) ?_
  refine VR_cv2 d_Mod_writeNumbers_4 c_Mod_149 (Mod_write hA _ (hn) (by decide) (by omega)) ⟨by decide, by decide⟩ rfl (Nat.le_of_ble_eq_true rfl) ?_
  refine V_ar_n d_Mod_writeNumbers_7 rfl ?_
  refine V_ldc d_Mod_writeNumbers_8 k_Mod_152 ?_
  refine V_iconst (v := nI 4) d_Mod_writeNumbers_10 (by decide) ?_
  refine VR_cv2 d_Mod_writeNumbers_11 c_Mod_149 (Mod_write hA _ (wrt_len 4 hn) (by decide) (by omega)) ⟨by decide, by decide⟩ rfl (Nat.le_of_ble_eq_true rfl) ?_
  refine V_ar_n d_Mod_writeNumbers_14 rfl ?_
  refine V_sipush (v := 1000) d_Mod_writeNumbers_15 (by decide) ?_
  refine V_iconst (v := nI 4) d_Mod_writeNumbers_18 (by decide) ?_
  refine VR_cv2 d_Mod_writeNumbers_19 c_Mod_149 (Mod_write hA _ (wrt_len 4 (wrt_len 4 hn)) (by decide) (by omega)) ⟨by decide, by decide⟩ rfl (Nat.le_of_ble_eq_true rfl) ?_
  exact V_return d_Mod_writeNumbers_22 rfl ⟨rfl, rfl⟩
set_option maxRecDepth 100000 in
set_option maxHeartbeats 4000000 in
theorem Mod_writeBeginning {l : Launch} {D : va_G} {ac : Nat → ClassId} {o : Nat} {ad : Nat → Nat} {r : RS} (hA : rAD o ad) {n : Nat} (hn : gF r 18 = nI n) (hb : n + 15 ≤ 320000) : RCv l D ac o ad t_Mod_writeBeginning [] r (if n = 0 then wl r 0 begl else r) := fun M0 => by
  refine Ct_of (by decide) (Nat.le_of_ble_eq_true rfl) ?_
  refine V_ar_n d_Mod_writeBeginning_0 rfl ?_
  refine VR_geti d_Mod_writeBeginning_1 f_Mod_145 (by decide) ?_
  refine V_eqi (show _ = nI n from hn) ?_
  refine V_if_ne 31 d_Mod_writeBeginning_4 (by decide) (fun h4 => ?_) (fun h4 => ?_)
  · have h0 : n ≠ 0 := fun z => h4 (by rw [z]; rfl)
    exact V_return d_Mod_writeBeginning_31 rfl ⟨rfl, by rw [if_neg h0]⟩
  · have h0 : n = 0 := (nI_eq (by omega) (by decide)).mp (Classical.not_not.mp h4)
    subst h0
    refine V_ar_n d_Mod_writeBeginning_7 rfl ?_
    refine V_sipush (v := 247) d_Mod_writeBeginning_8 (by decide) ?_
    refine V_iconst (v := nI 1) d_Mod_writeBeginning_11 (by decide) ?_
    refine VR_cv2 d_Mod_writeBeginning_12 c_Mod_149 (Mod_write hA _ (hn) (by decide) (by omega)) ⟨by decide, by decide⟩ rfl (Nat.le_of_ble_eq_true rfl) ?_
    refine V_ar_n d_Mod_writeBeginning_15 rfl ?_
    refine V_iconst (v := 2) d_Mod_writeBeginning_16 (by decide) ?_
    refine V_iconst (v := nI 1) d_Mod_writeBeginning_17 (by decide) ?_
    refine VR_cv2 d_Mod_writeBeginning_18 c_Mod_149 (Mod_write hA _ (wrt_len 1 hn) (by decide) (by omega)) ⟨by decide, by decide⟩ rfl (Nat.le_of_ble_eq_true rfl) ?_
    refine V_ar_n d_Mod_writeBeginning_21 rfl ?_
    refine VR_cv0 d_Mod_writeBeginning_22 c_Mod_153 (Mod_writeNumbers hA (wrt_len 1 (wrt_len 1 hn)) (by omega)) ⟨by decide, by decide⟩ rfl (Nat.le_of_ble_eq_true rfl) ?_
    refine V_ar_n d_Mod_writeBeginning_25 rfl ?_
    refine V_iconst (v := 0) d_Mod_writeBeginning_26 (by decide) ?_
    refine V_iconst (v := nI 1) d_Mod_writeBeginning_27 (by decide) ?_
    refine VR_cv2 d_Mod_writeBeginning_28 c_Mod_149 (Mod_write hA _ (wrt_len 4 (wrt_len 4 (wrt_len 4 (wrt_len 1 (wrt_len 1 hn))))) (by decide) (by omega)) ⟨by decide, by decide⟩ rfl (Nat.le_of_ble_eq_true rfl) ?_
    exact V_return d_Mod_writeBeginning_31 rfl ⟨rfl, by rw [if_pos rfl]; rfl⟩
set_option maxRecDepth 100000 in
set_option maxHeartbeats 4000000 in
theorem Mod_writeFont {l : Launch} {D : va_G} {ac : Nat → ClassId} {o : Nat} {ad : Nat → Nat} {r : RS} (hA : rAD o ad) {n k : Nat} (hn : gF r 18 = nI n) (hb : n + 18 ≤ 320000) (hk : k < 32) : RCv l D ac o ad t_Mod_writeFont [.int (nI k)] r (wl r n (fonl r k)) := fun M0 => by
  refine Ct_of (by decide) (Nat.le_of_ble_eq_true rfl) ?_
  refine V_ar_n d_Mod_writeFont_0 rfl ?_
  refine V_sipush (v := 243) d_Mod_writeFont_1 (by decide) ?_
  refine V_iconst (v := nI 1) d_Mod_writeFont_4 (by decide) ?_
  refine VR_cv2 d_Mod_writeFont_5 c_Mod_149 (Mod_write hA _ (hn) (by decide) (by omega)) ⟨by decide, by decide⟩ rfl (Nat.le_of_ble_eq_true rfl) ?_
  refine V_ar_n d_Mod_writeFont_8 rfl ?_
  refine V_iload_n d_Mod_writeFont_9 rfl ?_
  refine V_iconst (v := nI 1) d_Mod_writeFont_10 (by decide) ?_
  refine VR_cv2 d_Mod_writeFont_11 c_Mod_149 (Mod_write hA _ (wrt_len 1 hn) (by decide) (by omega)) ⟨by decide, by decide⟩ rfl (Nat.le_of_ble_eq_true rfl) ?_
  refine V_ar_n d_Mod_writeFont_14 rfl ?_
  refine V_iconst (v := 0) d_Mod_writeFont_15 (by decide) ?_
  refine V_iconst (v := nI 4) d_Mod_writeFont_16 (by decide) ?_
  refine VR_cv2 d_Mod_writeFont_17 c_Mod_149 (Mod_write hA _ (wrt_len 1 (wrt_len 1 hn)) (by decide) (by omega)) ⟨by decide, by decide⟩ rfl (Nat.le_of_ble_eq_true rfl) ?_
  refine V_ar_n d_Mod_writeFont_20 rfl ?_
  refine V_ar_n d_Mod_writeFont_21 rfl ?_
  refine VR_geta d_Mod_writeFont_22 f_Mod_41 (by decide) ?_
  refine V_iload_n d_Mod_writeFont_25 rfl ?_
  refine VR_iald hA d_Mod_writeFont_26 rfl (by omega) (by decide) ?_
  refine V_eqi (show _ = gB r 13 k from by rw [wrt_B (by decide), wrt_B (by decide), wrt_B (by decide)]) ?_
  refine V_iconst (v := nI 4) d_Mod_writeFont_27 (by decide) ?_
  refine VR_cv2 d_Mod_writeFont_28 c_Mod_149 (Mod_write hA _ (wrt_len 4 (wrt_len 1 (wrt_len 1 hn))) (by decide) (by omega)) ⟨by decide, by decide⟩ rfl (Nat.le_of_ble_eq_true rfl) ?_
  refine V_ar_n d_Mod_writeFont_31 rfl ?_
  refine V_ar_n d_Mod_writeFont_32 rfl ?_
  refine VR_geta d_Mod_writeFont_33 f_Mod_44 (by decide) ?_
  refine V_iload_n d_Mod_writeFont_36 rfl ?_
  refine VR_iald hA d_Mod_writeFont_37 rfl (by omega) (by decide) ?_
  refine V_eqi (show _ = gB r 14 k from by rw [wrt_B (by decide), wrt_B (by decide), wrt_B (by decide), wrt_B (by decide)]) ?_
  refine V_iconst (v := nI 4) d_Mod_writeFont_38 (by decide) ?_
  refine VR_cv2 d_Mod_writeFont_39 c_Mod_149 (Mod_write hA _ (wrt_len 4 (wrt_len 4 (wrt_len 1 (wrt_len 1 hn)))) (by decide) (by omega)) ⟨by decide, by decide⟩ rfl (Nat.le_of_ble_eq_true rfl) ?_
  refine V_ar_n d_Mod_writeFont_42 rfl ?_
  refine V_iconst (v := 0) d_Mod_writeFont_43 (by decide) ?_
  refine V_iconst (v := nI 1) d_Mod_writeFont_44 (by decide) ?_
  refine VR_cv2 d_Mod_writeFont_45 c_Mod_149 (Mod_write hA _ (wrt_len 4 (wrt_len 4 (wrt_len 4 (wrt_len 1 (wrt_len 1 hn))))) (by decide) (by omega)) ⟨by decide, by decide⟩ rfl (Nat.le_of_ble_eq_true rfl) ?_
  refine V_ar_n d_Mod_writeFont_48 rfl ?_
  refine V_iconst (v := 1) d_Mod_writeFont_49 (by decide) ?_
  refine V_iconst (v := nI 1) d_Mod_writeFont_50 (by decide) ?_
  refine VR_cv2 d_Mod_writeFont_51 c_Mod_149 (Mod_write hA _ (wrt_len 1 (wrt_len 4 (wrt_len 4 (wrt_len 4 (wrt_len 1 (wrt_len 1 hn)))))) (by decide) (by omega)) ⟨by decide, by decide⟩ rfl (Nat.le_of_ble_eq_true rfl) ?_
  refine V_ar_n d_Mod_writeFont_54 rfl ?_
  refine V_bipush (v := 65) d_Mod_writeFont_55 (by decide) ?_
  refine V_iload_n d_Mod_writeFont_57 rfl ?_
  refine V_bipush (v := 26) d_Mod_writeFont_58 (by decide) ?_
  refine V_irem d_Mod_writeFont_60 (by decide) ?_
  refine V_iadd d_Mod_writeFont_61 ?_
  refine V_iconst (v := nI 1) d_Mod_writeFont_62 (by decide) ?_
  refine VR_cv2 d_Mod_writeFont_63 c_Mod_149 (Mod_write hA _ (wrt_len 1 (wrt_len 1 (wrt_len 4 (wrt_len 4 (wrt_len 4 (wrt_len 1 (wrt_len 1 hn))))))) (by decide) (by omega)) ⟨by decide, by decide⟩ rfl (Nat.le_of_ble_eq_true rfl) ?_
  exact V_return d_Mod_writeFont_66 rfl ⟨rfl, rfl⟩
def szd (r : RS) (x : Int64) : RS := sF r 33 (if ¬ gF r 33 = 0 ∧ ¬ iszl x = 0 then 1 else 0)
theorem okz0 : narrow .boolean (.int 0) = .int 0 ∧ fits .boolean (.int 0) = true := by decide
theorem okz1 : narrow .boolean (.int 1) = .int 1 ∧ fits .boolean (.int 1) = true := by decide
set_option maxRecDepth 100000 in
set_option maxHeartbeats 4000000 in
theorem Mod_sized {l : Launch} {D : va_G} {ac : Nat → ClassId} {o : Nat} {ad : Nat → Nat} {r : RS} (x : Int64) : RCv l D ac o ad t_Mod_sized [.long x] r (szd r x) := fun M0 => by
  refine Ct_of (by decide) (Nat.le_of_ble_eq_true rfl) ?_
  refine V_ar_n d_Mod_sized_0 rfl ?_
  refine V_ar_n d_Mod_sized_1 rfl ?_
  refine VR_geti d_Mod_sized_2 f_Mod_156 (by decide) ?_
  refine V_if_eq 19 d_Mod_sized_5 (by decide) (fun h5 => ?_) (fun h5 => ?_)
  · refine V_iconst (v := 0) d_Mod_sized_19 (by decide) ?_
    refine VR_putz d_Mod_sized_20 f_Mod_156 (by decide) (okz0) ?_
    exact V_return d_Mod_sized_23 rfl ⟨rfl, by rw [szd, if_neg (fun z => z.1 h5)]⟩
  · refine V_lload_n d_Mod_sized_8 rfl ?_
    refine VS_ci1 d_Mod_sized_9 c_Mod_127 (Mod_isSizeLong x) ⟨by decide, by decide⟩ (Nat.le_of_ble_eq_true rfl) ?_
    refine V_if_eq 19 d_Mod_sized_12 (by decide) (fun h12 => ?_) (fun h12 => ?_)
    · refine V_iconst (v := 0) d_Mod_sized_19 (by decide) ?_
      refine VR_putz d_Mod_sized_20 f_Mod_156 (by decide) (okz0) ?_
      exact V_return d_Mod_sized_23 rfl ⟨rfl, by rw [szd, if_neg (fun z => z.2 h12)]⟩
    · refine V_iconst (v := 1) d_Mod_sized_15 (by decide) ?_
      refine V_goto 20 d_Mod_sized_16 (by decide) ?_
      refine VR_putz d_Mod_sized_20 f_Mod_156 (by decide) (okz1) ?_
      exact V_return d_Mod_sized_23 rfl ⟨rfl, by rw [szd, if_pos ⟨h5, h12⟩]⟩
def nby (x : Int32) : Nat := if ¬ x < -128 ∧ ¬ 128 ≤ x then 1 else if ¬ x < -32768 ∧ ¬ 32768 ≤ x then 2 else if ¬ x < -8388608 ∧ ¬ 8388608 ≤ x then 3 else 4
theorem nby_le (x : Int32) : 1 ≤ nby x ∧ nby x ≤ 4 := by
  unfold nby
  split
  · omega
  · split
    · omega
    · split <;> omega
set_option maxRecDepth 100000 in
set_option maxHeartbeats 4000000 in
theorem Mod_bytes {l : Launch} {D : va_G} {ac : Nat → ClassId} (x : Int32) : SCi l D ac t_Mod_bytes [.int x] (nI (nby x)) := fun M => by
  refine Ct_of (by decide) (Nat.le_of_ble_eq_true rfl) ?_
  refine V_iload_n d_Mod_bytes_0 rfl ?_
  refine V_bipush (v := (-128)) d_Mod_bytes_1 (by decide) ?_
  refine V_icmp_lt 17 d_Mod_bytes_3 (by decide) (fun h3 => ?_) (fun h3 => ?_)
  · refine V_iload_n d_Mod_bytes_17 rfl ?_
    refine V_sipush (v := (-32768)) d_Mod_bytes_18 (by decide) ?_
    refine V_icmp_lt 34 d_Mod_bytes_21 (by decide) (fun h21 => ?_) (fun h21 => ?_)
    · refine V_iload_n d_Mod_bytes_34 rfl ?_
      refine V_ldc d_Mod_bytes_35 k_Mod_171 ?_
      refine V_icmp_lt 50 d_Mod_bytes_37 (by decide) (fun h37 => ?_) (fun h37 => ?_)
      · refine V_iconst (v := nI 4) d_Mod_bytes_50 (by decide) ?_
        exact V_ireturn d_Mod_bytes_51 rfl ⟨by rw [nby, if_neg (fun z => z.1 h3), if_neg (fun z => z.1 h21), if_neg (fun z => z.1 h37)], rfl⟩
      · refine V_iload_n d_Mod_bytes_40 rfl ?_
        refine V_ldc d_Mod_bytes_41 k_Mod_172 ?_
        refine V_icmp_ge 50 d_Mod_bytes_43 (by decide) (fun h43 => ?_) (fun h43 => ?_)
        · refine V_iconst (v := nI 4) d_Mod_bytes_50 (by decide) ?_
          exact V_ireturn d_Mod_bytes_51 rfl ⟨by rw [nby, if_neg (fun z => z.1 h3), if_neg (fun z => z.1 h21), if_neg (fun z => z.2 h43)], rfl⟩
        · refine V_iconst (v := nI 3) d_Mod_bytes_46 (by decide) ?_
          refine V_goto 51 d_Mod_bytes_47 (by decide) ?_
          exact V_ireturn d_Mod_bytes_51 rfl ⟨by rw [nby, if_neg (fun z => z.1 h3), if_neg (fun z => z.1 h21), if_pos ⟨h37, h43⟩], rfl⟩
    · refine V_iload_n d_Mod_bytes_24 rfl ?_
      refine V_ldc d_Mod_bytes_25 k_Mod_170 ?_
      refine V_icmp_ge 34 d_Mod_bytes_27 (by decide) (fun h27 => ?_) (fun h27 => ?_)
      · refine V_iload_n d_Mod_bytes_34 rfl ?_
        refine V_ldc d_Mod_bytes_35 k_Mod_171 ?_
        refine V_icmp_lt 50 d_Mod_bytes_37 (by decide) (fun h37 => ?_) (fun h37 => ?_)
        · refine V_iconst (v := nI 4) d_Mod_bytes_50 (by decide) ?_
          exact V_ireturn d_Mod_bytes_51 rfl ⟨by rw [nby, if_neg (fun z => z.1 h3), if_neg (fun z => z.2 h27), if_neg (fun z => z.1 h37)], rfl⟩
        · refine V_iload_n d_Mod_bytes_40 rfl ?_
          refine V_ldc d_Mod_bytes_41 k_Mod_172 ?_
          refine V_icmp_ge 50 d_Mod_bytes_43 (by decide) (fun h43 => ?_) (fun h43 => ?_)
          · refine V_iconst (v := nI 4) d_Mod_bytes_50 (by decide) ?_
            exact V_ireturn d_Mod_bytes_51 rfl ⟨by rw [nby, if_neg (fun z => z.1 h3), if_neg (fun z => z.2 h27), if_neg (fun z => z.2 h43)], rfl⟩
          · refine V_iconst (v := nI 3) d_Mod_bytes_46 (by decide) ?_
            refine V_goto 51 d_Mod_bytes_47 (by decide) ?_
            exact V_ireturn d_Mod_bytes_51 rfl ⟨by rw [nby, if_neg (fun z => z.1 h3), if_neg (fun z => z.2 h27), if_pos ⟨h37, h43⟩], rfl⟩
      · refine V_iconst (v := nI 2) d_Mod_bytes_30 (by decide) ?_
        refine V_goto 51 d_Mod_bytes_31 (by decide) ?_
        exact V_ireturn d_Mod_bytes_51 rfl ⟨by rw [nby, if_neg (fun z => z.1 h3), if_pos ⟨h21, h27⟩], rfl⟩
  · refine V_iload_n d_Mod_bytes_6 rfl ?_
    refine V_sipush (v := 128) d_Mod_bytes_7 (by decide) ?_
    refine V_icmp_ge 17 d_Mod_bytes_10 (by decide) (fun h10 => ?_) (fun h10 => ?_)
    · refine V_iload_n d_Mod_bytes_17 rfl ?_
      refine V_sipush (v := (-32768)) d_Mod_bytes_18 (by decide) ?_
      refine V_icmp_lt 34 d_Mod_bytes_21 (by decide) (fun h21 => ?_) (fun h21 => ?_)
      · refine V_iload_n d_Mod_bytes_34 rfl ?_
        refine V_ldc d_Mod_bytes_35 k_Mod_171 ?_
        refine V_icmp_lt 50 d_Mod_bytes_37 (by decide) (fun h37 => ?_) (fun h37 => ?_)
        · refine V_iconst (v := nI 4) d_Mod_bytes_50 (by decide) ?_
          exact V_ireturn d_Mod_bytes_51 rfl ⟨by rw [nby, if_neg (fun z => z.2 h10), if_neg (fun z => z.1 h21), if_neg (fun z => z.1 h37)], rfl⟩
        · refine V_iload_n d_Mod_bytes_40 rfl ?_
          refine V_ldc d_Mod_bytes_41 k_Mod_172 ?_
          refine V_icmp_ge 50 d_Mod_bytes_43 (by decide) (fun h43 => ?_) (fun h43 => ?_)
          · refine V_iconst (v := nI 4) d_Mod_bytes_50 (by decide) ?_
            exact V_ireturn d_Mod_bytes_51 rfl ⟨by rw [nby, if_neg (fun z => z.2 h10), if_neg (fun z => z.1 h21), if_neg (fun z => z.2 h43)], rfl⟩
          · refine V_iconst (v := nI 3) d_Mod_bytes_46 (by decide) ?_
            refine V_goto 51 d_Mod_bytes_47 (by decide) ?_
            exact V_ireturn d_Mod_bytes_51 rfl ⟨by rw [nby, if_neg (fun z => z.2 h10), if_neg (fun z => z.1 h21), if_pos ⟨h37, h43⟩], rfl⟩
      · refine V_iload_n d_Mod_bytes_24 rfl ?_
        refine V_ldc d_Mod_bytes_25 k_Mod_170 ?_
        refine V_icmp_ge 34 d_Mod_bytes_27 (by decide) (fun h27 => ?_) (fun h27 => ?_)
        · refine V_iload_n d_Mod_bytes_34 rfl ?_
          refine V_ldc d_Mod_bytes_35 k_Mod_171 ?_
          refine V_icmp_lt 50 d_Mod_bytes_37 (by decide) (fun h37 => ?_) (fun h37 => ?_)
          · refine V_iconst (v := nI 4) d_Mod_bytes_50 (by decide) ?_
            exact V_ireturn d_Mod_bytes_51 rfl ⟨by rw [nby, if_neg (fun z => z.2 h10), if_neg (fun z => z.2 h27), if_neg (fun z => z.1 h37)], rfl⟩
          · refine V_iload_n d_Mod_bytes_40 rfl ?_
            refine V_ldc d_Mod_bytes_41 k_Mod_172 ?_
            refine V_icmp_ge 50 d_Mod_bytes_43 (by decide) (fun h43 => ?_) (fun h43 => ?_)
            · refine V_iconst (v := nI 4) d_Mod_bytes_50 (by decide) ?_
              exact V_ireturn d_Mod_bytes_51 rfl ⟨by rw [nby, if_neg (fun z => z.2 h10), if_neg (fun z => z.2 h27), if_neg (fun z => z.2 h43)], rfl⟩
            · refine V_iconst (v := nI 3) d_Mod_bytes_46 (by decide) ?_
              refine V_goto 51 d_Mod_bytes_47 (by decide) ?_
              exact V_ireturn d_Mod_bytes_51 rfl ⟨by rw [nby, if_neg (fun z => z.2 h10), if_neg (fun z => z.2 h27), if_pos ⟨h37, h43⟩], rfl⟩
        · refine V_iconst (v := nI 2) d_Mod_bytes_30 (by decide) ?_
          refine V_goto 51 d_Mod_bytes_31 (by decide) ?_
          exact V_ireturn d_Mod_bytes_51 rfl ⟨by rw [nby, if_neg (fun z => z.2 h10), if_pos ⟨h21, h27⟩], rfl⟩
    · refine V_iconst (v := nI 1) d_Mod_bytes_13 (by decide) ?_
      refine V_goto 51 d_Mod_bytes_14 (by decide) ?_
      exact V_ireturn d_Mod_bytes_51 rfl ⟨by rw [nby, if_pos ⟨h3, h10⟩], rfl⟩
end
section
/-! moves, characters, the saved moves -/
def gom (r : RS) (sd : Nat) (x : Int32) : Int64 := x.toInt64 - (gB r 31 sd).toInt64
def gow (r : RS) (sd : Nat) (x : Int32) (wh : Nat) : Nat := if (gB r 31 (2 + 2 * sd)).toInt64 = gom r sd x then 0 else if (gB r 31 (2 + 2 * sd + 1)).toInt64 = gom r sd x then 1 else wh
def gop (sd : Nat) : Nat := if sd = 0 then 147 else 161
def gos (r : RS) (n sd : Nat) (x : Int32) (w : Nat) (m : Int64) : RS := if (gB r 31 (2 + 2 * sd + w)).toInt64 = m then wrt 1 r n (nI (gop sd + 5 * w)) else w1 (wrt (nby m.toInt32) (wrt 1 r n (nI (gop sd + 5 * w + nby m.toInt32))) (n + 1) m.toInt32) 31 (2 + 2 * sd + w) m.toInt32
def goe (r : RS) (sd : Nat) (x : Int32) (w : Nat) : RS := w1 (w1 r 31 (6 + sd) (nI (1 - w))) 31 sd x
def gor (r : RS) (n sd : Nat) (x : Int32) (wh : Nat) : RS := if gom r sd x = 0 ∨ gF (szd r (gom r sd x)) 33 = 0 then szd r (gom r sd x) else goe (gos (szd r (gom r sd x)) n sd x (gow r sd x wh) (gom r sd x)) sd x (gow r sd x wh)
set_option maxRecDepth 100000 in
set_option maxHeartbeats 4000000 in
theorem Mod_go_172 {l : Launch} {D : va_G} {ac : Nat → ClassId} {o : Nat} {ad : Nat → Nat} {r : RS} {M0 : MP} (hA : rAD o ad) {sd w : Nat} {x : Int32} {m : Int64} (hsd : sd ≤ 1) (hw : w ≤ 1) : V l D (tyl ac) t_Mod_go 0 0 172 [(7, .int (nI w)), (6, .int (nI (gop sd))), (5, .int (nI (2 + 2 * sd))), (3, .long m), (0, .ref o), (1, .int (nI sd)), (2, .int x)] [] (rM ac o ad (r) M0) (fun rv M' => rv = none ∧ M' = rM ac o ad (goe r sd x w) M0) := by
  refine V_ar_n d_Mod_go_172 rfl ?_
  refine VR_geta d_Mod_go_173 f_Mod_78 (by decide) ?_
  refine V_bipush (v := nI 6) d_Mod_go_176 (by decide) ?_
  refine V_iload_n d_Mod_go_178 rfl ?_
  refine V_iadd d_Mod_go_179 ?_
  refine V_eqi (nI_add 6 sd) ?_
  refine V_iconst (v := nI 1) d_Mod_go_180 (by decide) ?_
  refine V_iload d_Mod_go_181 rfl ?_
  refine V_isub d_Mod_go_183 ?_
  refine V_eqi (pk_sub hw) ?_
  refine VR_iast hA d_Mod_go_184 rfl (by omega) (by decide) ?_
  refine V_ar_n d_Mod_go_185 rfl ?_
  refine VR_geta d_Mod_go_186 f_Mod_78 (by decide) ?_
  refine V_iload_n d_Mod_go_189 rfl ?_
  refine V_iload_n d_Mod_go_190 rfl ?_
  refine VR_iast hA d_Mod_go_191 rfl (by omega) (by decide) ?_
  exact V_return d_Mod_go_192 rfl ⟨rfl, rfl⟩
set_option maxRecDepth 100000 in
set_option maxHeartbeats 4000000 in
theorem Mod_go_97 {l : Launch} {D : va_G} {ac : Nat → ClassId} {o : Nat} {ad : Nat → Nat} {r : RS} {M0 : MP} (hA : rAD o ad) {n sd w : Nat} {x : Int32} {m : Int64} (hn : gF r 18 = nI n) (hb : n + 5 ≤ 320000) (hsd : sd ≤ 1) (hw : w ≤ 1) : V l D (tyl ac) t_Mod_go 0 0 97 [(6, .int (nI (gop sd))), (5, .int (nI (2 + 2 * sd))), (3, .long m), (0, .ref o), (1, .int (nI sd)), (2, .int x)] [.int (nI w)] (rM ac o ad (r) M0) (fun rv M' => rv = none ∧ M' = rM ac o ad (goe (gos r n sd x w m) sd x w) M0) := by
  refine V_istore (lv' := [(7, .int (nI w)), (6, .int (nI (gop sd))), (5, .int (nI (2 + 2 * sd))), (3, .long m), (0, .ref o), (1, .int (nI sd)), (2, .int x)]) d_Mod_go_97 (by decide) rfl ?_
  refine V_ar_n d_Mod_go_99 rfl ?_
  refine VR_geta d_Mod_go_100 f_Mod_78 (by decide) ?_
  refine V_iload d_Mod_go_103 rfl ?_
  refine V_iload d_Mod_go_105 rfl ?_
  refine V_iadd d_Mod_go_107 ?_
  refine V_eqi (nI_add _ _) ?_
  refine VR_iald hA d_Mod_go_108 rfl (by omega) (by decide) ?_
  refine V_i2l d_Mod_go_109 ?_
  refine V_lload_n d_Mod_go_110 rfl ?_
  refine V_lcmp d_Mod_go_111 ?_
  refine V_if_ne 130 d_Mod_go_112 (by decide) (fun h112 => ?_) (fun h112 => ?_)
  · have hne : ¬ (gB r 31 (2 + 2 * sd + w)).toInt64 = m := fun z => h112 ((lg_cmp_eq _ _).mpr z)
    have hby := nby_le m.toInt32
    refine V_lload_n d_Mod_go_130 rfl ?_
    refine V_l2i d_Mod_go_131 ?_
    refine VS_ci1 d_Mod_go_132 c_Mod_173 (Mod_bytes _) ⟨by decide, by decide⟩ (Nat.le_of_ble_eq_true rfl) ?_
    refine V_istore (lv' := [(8, .int (nI (nby m.toInt32))), (7, .int (nI w)), (6, .int (nI (gop sd))), (5, .int (nI (2 + 2 * sd))), (3, .long m), (0, .ref o), (1, .int (nI sd)), (2, .int x)]) d_Mod_go_135 (by decide) rfl ?_
    refine V_ar_n d_Mod_go_137 rfl ?_
    refine V_iload d_Mod_go_138 rfl ?_
    refine V_iconst (v := nI 5) d_Mod_go_140 (by decide) ?_
    refine V_iload d_Mod_go_141 rfl ?_
    refine V_imul d_Mod_go_143 ?_
    refine V_eqi (pk_mul 5 w) ?_
    refine V_iadd d_Mod_go_144 ?_
    refine V_eqi (nI_add _ _) ?_
    refine V_iload d_Mod_go_145 rfl ?_
    refine V_iadd d_Mod_go_147 ?_
    refine V_eqi (nI_add _ _) ?_
    refine V_iconst (v := nI 1) d_Mod_go_148 (by decide) ?_
    refine VR_cv2 d_Mod_go_149 c_Mod_149 (Mod_write hA _ (hn) (by decide) (by omega)) ⟨by decide, by decide⟩ rfl (Nat.le_of_ble_eq_true rfl) ?_
    refine V_ar_n d_Mod_go_152 rfl ?_
    refine V_lload_n d_Mod_go_153 rfl ?_
    refine V_l2i d_Mod_go_154 ?_
    refine V_iload d_Mod_go_155 rfl ?_
    refine VR_cv2 d_Mod_go_157 c_Mod_149 (Mod_write hA _ (wrt_len 1 hn) (hby.2) (by omega)) ⟨by decide, by decide⟩ rfl (Nat.le_of_ble_eq_true rfl) ?_
    refine V_ar_n d_Mod_go_160 rfl ?_
    refine VR_geta d_Mod_go_161 f_Mod_78 (by decide) ?_
    refine V_iload d_Mod_go_164 rfl ?_
    refine V_iload d_Mod_go_166 rfl ?_
    refine V_iadd d_Mod_go_168 ?_
    refine V_eqi (nI_add _ _) ?_
    refine V_lload_n d_Mod_go_169 rfl ?_
    refine V_l2i d_Mod_go_170 ?_
    refine VR_iast hA d_Mod_go_171 rfl (by omega) (by decide) ?_
    refine V_lv [1, 2, 3, 4, 5, 6, 7] rfl ?_
    rw [gos, if_neg hne]
    exact Mod_go_172 hA hsd hw
  · have hne : (gB r 31 (2 + 2 * sd + w)).toInt64 = m := (lg_cmp_eq _ _).mp (Classical.not_not.mp h112)
    refine V_ar_n d_Mod_go_115 rfl ?_
    refine V_iload d_Mod_go_116 rfl ?_
    refine V_iconst (v := nI 5) d_Mod_go_118 (by decide) ?_
    refine V_iload d_Mod_go_119 rfl ?_
    refine V_imul d_Mod_go_121 ?_
    refine V_eqi (pk_mul 5 w) ?_
    refine V_iadd d_Mod_go_122 ?_
    refine V_eqi (nI_add _ _) ?_
    refine V_iconst (v := nI 1) d_Mod_go_123 (by decide) ?_
    refine VR_cv2 d_Mod_go_124 c_Mod_149 (Mod_write hA _ (hn) (by decide) (by omega)) ⟨by decide, by decide⟩ rfl (Nat.le_of_ble_eq_true rfl) ?_
    refine V_goto 172 d_Mod_go_127 (by decide) ?_
    rw [gos, if_pos hne]
    exact Mod_go_172 hA hsd hw
set_option maxRecDepth 100000 in
set_option maxHeartbeats 4000000 in
theorem Mod_go_52 {l : Launch} {D : va_G} {ac : Nat → ClassId} {o : Nat} {ad : Nat → Nat} {r : RS} {M0 : MP} (hA : rAD o ad) {n sd wh : Nat} {x : Int32} {m : Int64} (hn : gF r 18 = nI n) (hb : n + 5 ≤ 320000) (hsd : sd ≤ 1) (hw : wh ≤ 1) (hwh : gB r 31 (6 + sd) = nI wh) : V l D (tyl ac) t_Mod_go 0 0 52 [(6, .int (nI (gop sd))), (5, .int (nI (2 + 2 * sd))), (3, .long m), (0, .ref o), (1, .int (nI sd)), (2, .int x)] [] (rM ac o ad (r) M0) (fun rv M' => rv = none ∧ M' = rM ac o ad (goe (gos r n sd x (if (gB r 31 (2 + 2 * sd)).toInt64 = m then 0 else if (gB r 31 (2 + 2 * sd + 1)).toInt64 = m then 1 else wh) m) sd x (if (gB r 31 (2 + 2 * sd)).toInt64 = m then 0 else if (gB r 31 (2 + 2 * sd + 1)).toInt64 = m then 1 else wh)) M0) := by
  refine V_ar_n d_Mod_go_52 rfl ?_
  refine VR_geta d_Mod_go_53 f_Mod_78 (by decide) ?_
  refine V_iload d_Mod_go_56 rfl ?_
  refine VR_iald hA d_Mod_go_58 rfl (by omega) (by decide) ?_
  refine V_i2l d_Mod_go_59 ?_
  refine V_lload_n d_Mod_go_60 rfl ?_
  refine V_lcmp d_Mod_go_61 ?_
  refine V_if_ne 69 d_Mod_go_62 (by decide) (fun h62 => ?_) (fun h62 => ?_)
  · have n1 : ¬ (gB r 31 (2 + 2 * sd)).toInt64 = m := fun z => h62 ((lg_cmp_eq _ _).mpr z)
    refine V_ar_n d_Mod_go_69 rfl ?_
    refine VR_geta d_Mod_go_70 f_Mod_78 (by decide) ?_
    refine V_iload d_Mod_go_73 rfl ?_
    refine V_iconst (v := nI 1) d_Mod_go_75 (by decide) ?_
    refine V_iadd d_Mod_go_76 ?_
    refine V_eqi (nI_add _ _) ?_
    refine VR_iald hA d_Mod_go_77 rfl (by omega) (by decide) ?_
    refine V_i2l d_Mod_go_78 ?_
    refine V_lload_n d_Mod_go_79 rfl ?_
    refine V_lcmp d_Mod_go_80 ?_
    refine V_if_ne 88 d_Mod_go_81 (by decide) (fun h81 => ?_) (fun h81 => ?_)
    · have n2 : ¬ (gB r 31 (2 + 2 * sd + 1)).toInt64 = m := fun z => h81 ((lg_cmp_eq _ _).mpr z)
      refine V_ar_n d_Mod_go_88 rfl ?_
      refine VR_geta d_Mod_go_89 f_Mod_78 (by decide) ?_
      refine V_bipush (v := nI 6) d_Mod_go_92 (by decide) ?_
      refine V_iload_n d_Mod_go_94 rfl ?_
      refine V_iadd d_Mod_go_95 ?_
      refine V_eqi (nI_add 6 sd) ?_
      refine VR_iald hA d_Mod_go_96 rfl (by omega) (by decide) ?_
      refine V_eqi (show _ = nI wh from hwh) ?_
      rw [if_neg n1, if_neg n2]
      exact Mod_go_97 hA hn hb hsd hw
    · have n2 : (gB r 31 (2 + 2 * sd + 1)).toInt64 = m := (lg_cmp_eq _ _).mp (Classical.not_not.mp h81)
      refine V_iconst (v := nI 1) d_Mod_go_84 (by decide) ?_
      refine V_goto 97 d_Mod_go_85 (by decide) ?_
      rw [if_neg n1, if_pos n2]
      exact Mod_go_97 hA hn hb hsd (by omega)
  · have n1 : (gB r 31 (2 + 2 * sd)).toInt64 = m := (lg_cmp_eq _ _).mp (Classical.not_not.mp h62)
    refine V_iconst (v := nI 0) d_Mod_go_65 (by decide) ?_
    refine V_goto 97 d_Mod_go_66 (by decide) ?_
    rw [if_pos n1]
    exact Mod_go_97 hA hn hb hsd (by omega)
set_option maxRecDepth 100000 in
set_option maxHeartbeats 4000000 in
theorem Mod_go {l : Launch} {D : va_G} {ac : Nat → ClassId} {o : Nat} {ad : Nat → Nat} {r : RS} (hA : rAD o ad) {n sd wh : Nat} (x : Int32) (hn : gF r 18 = nI n) (hb : n + 5 ≤ 320000) (hsd : sd ≤ 1) (hw : wh ≤ 1) (hwh : gB r 31 (6 + sd) = nI wh) : RCv l D ac o ad t_Mod_go [.int (nI sd), .int x] r (gor r n sd x wh) := fun M0 => by
  refine Ct_of (by decide) (Nat.le_of_ble_eq_true rfl) ?_
  refine V_iload_n d_Mod_go_0 rfl ?_
  refine V_i2l d_Mod_go_1 ?_
  refine V_ar_n d_Mod_go_2 rfl ?_
  refine VR_geta d_Mod_go_3 f_Mod_78 (by decide) ?_
  refine V_iload_n d_Mod_go_6 rfl ?_
  refine VR_iald hA d_Mod_go_7 rfl (by omega) (by decide) ?_
  refine V_i2l d_Mod_go_8 ?_
  refine V_lsub d_Mod_go_9 ?_
  refine V_lstore_n (lv' := [(3, .long (gom r sd x)), (0, .ref o), (1, .int (nI sd)), (2, .int x)]) d_Mod_go_10 (by decide) rfl ?_
  refine V_ar_n d_Mod_go_11 rfl ?_
  refine V_lload_n d_Mod_go_12 rfl ?_
  refine VR_cv1 d_Mod_go_13 c_Mod_163 (Mod_sized _) ⟨by decide, by decide⟩ rfl (Nat.le_of_ble_eq_true rfl) ?_
  refine V_lload_n d_Mod_go_16 rfl ?_
  refine V_lconst (v := 0) d_Mod_go_17 (by decide) ?_
  refine V_lcmp d_Mod_go_18 ?_
  refine V_if_eq 29 d_Mod_go_19 (by decide) (fun h19 => ?_) (fun h19 => ?_)
  · exact V_return d_Mod_go_29 rfl ⟨rfl, by rw [gor, if_pos (Or.inl ((lg_cmp_eq _ _).mp h19))]⟩
  · refine V_ar_n d_Mod_go_22 rfl ?_
    refine VR_geti d_Mod_go_23 f_Mod_156 (by decide) ?_
    refine V_if_ne 30 d_Mod_go_26 (by decide) (fun h26 => ?_) (fun h26 => ?_)
    · have hc : ¬ (gom r sd x = 0 ∨ gF (szd r (gom r sd x)) 33 = 0) := fun z => z.elim (fun y => h19 ((lg_cmp_eq _ _).mpr y)) h26
      rw [gor, if_neg hc]
      refine V_iconst (v := nI 2) d_Mod_go_30 (by decide) ?_
      refine V_iconst (v := nI 2) d_Mod_go_31 (by decide) ?_
      refine V_iload_n d_Mod_go_32 rfl ?_
      refine V_imul d_Mod_go_33 ?_
      refine V_eqi (pk_mul 2 sd) ?_
      refine V_iadd d_Mod_go_34 ?_
      refine V_eqi (nI_add _ _) ?_
      refine V_istore (lv' := [(5, .int (nI (2 + 2 * sd))), (3, .long (gom r sd x)), (0, .ref o), (1, .int (nI sd)), (2, .int x)]) d_Mod_go_35 (by decide) rfl ?_
      refine V_iload_n d_Mod_go_37 rfl ?_
      refine V_if_ne 47 d_Mod_go_38 (by decide) (fun h38 => ?_) (fun h38 => ?_)
      · have hs : sd = 1 := by
          rcases Nat.eq_zero_or_pos sd with z | z
          · exact absurd (by rw [z]; rfl) h38
          · omega
        refine V_sipush (v := nI 161) d_Mod_go_47 (by decide) ?_
        refine V_eqi (show _ = nI (gop sd) from by rw [hs]; rfl) ?_
        refine V_istore (lv' := [(6, .int (nI (gop sd))), (5, .int (nI (2 + 2 * sd))), (3, .long (gom r sd x)), (0, .ref o), (1, .int (nI sd)), (2, .int x)]) d_Mod_go_50 (by decide) rfl ?_
        exact Mod_go_52 (r := szd r (gom r sd x)) hA hn hb hsd hw hwh
      · have hs : sd = 0 := (nI_eq (by omega) (by decide)).mp (Classical.not_not.mp h38)
        refine V_sipush (v := nI 147) d_Mod_go_41 (by decide) ?_
        refine V_goto 50 d_Mod_go_44 (by decide) ?_
        refine V_eqi (show _ = nI (gop sd) from by rw [hs]; rfl) ?_
        refine V_istore (lv' := [(6, .int (nI (gop sd))), (5, .int (nI (2 + 2 * sd))), (3, .long (gom r sd x)), (0, .ref o), (1, .int (nI sd)), (2, .int x)]) d_Mod_go_50 (by decide) rfl ?_
        exact Mod_go_52 (r := szd r (gom r sd x)) hA hn hb hsd hw hwh
    · exact V_return d_Mod_go_29 rfl ⟨rfl, by rw [gor, if_pos (Or.inr (Classical.not_not.mp h26))]⟩
def bya (r : RS) (n : Nat) (x : Int32) : Int32 := if ¬ x < 0 ∧ x < nI n then gB r 17 x.toNatClampNeg &&& 255 else -1
theorem nI_n {x : Int32} {n : Nat} (hn : n < 2 ^ 31) (h0 : ¬ x < 0) (h1 : x < nI n) : ∃ m, m < n ∧ x = nI m := by
  obtain ⟨j, hj, e⟩ := nI_of h0
  refine ⟨j, ?_, e⟩
  rw [e] at h1
  exact (nI_ltI hj hn).mp h1
set_option maxRecDepth 100000 in
set_option maxHeartbeats 4000000 in
theorem Mod_byteAt {l : Launch} {D : va_G} {ac : Nat → ClassId} {o : Nat} {ad : Nat → Nat} {r : RS} (hA : rAD o ad) {n : Nat} (x : Int32) (hn : gF r 18 = nI n) (hb : n ≤ 320000) : RCi l D ac o ad t_Mod_byteAt [.int x] r (bya r n x) (sF r 0 0) := fun M0 => by
  refine Ct_of (by decide) (Nat.le_of_ble_eq_true rfl) ?_
  refine V_ar_n d_Mod_byteAt_0 rfl ?_
  refine V_iconst (v := 0) d_Mod_byteAt_1 (by decide) ?_
  refine VR_puti d_Mod_byteAt_2 f_Mod_81 (by decide) ?_
  refine V_iload_n d_Mod_byteAt_5 rfl ?_
  refine V_if_lt 17 d_Mod_byteAt_6 (by decide) (fun h6 => ?_) (fun h6 => ?_)
  · refine V_iconst (v := (-1)) d_Mod_byteAt_17 (by decide) ?_
    refine V_goto 31 d_Mod_byteAt_18 (by decide) ?_
    exact V_ireturn d_Mod_byteAt_31 rfl ⟨by rw [bya, if_neg (fun z => z.1 h6)], rfl⟩
  · refine V_iload_n d_Mod_byteAt_9 rfl ?_
    refine V_ar_n d_Mod_byteAt_10 rfl ?_
    refine VR_geti d_Mod_byteAt_11 f_Mod_145 (by decide) ?_
    refine V_eqi (show _ = nI n from hn) ?_
    refine V_icmp_lt 21 d_Mod_byteAt_14 (by decide) (fun h14 => ?_) (fun h14 => ?_)
    · obtain ⟨m, hm, rfl⟩ := nI_n (by omega) h6 h14
      refine V_ar_n d_Mod_byteAt_21 rfl ?_
      refine VR_geta d_Mod_byteAt_22 f_Mod_54 (by decide) ?_
      refine V_iload_n d_Mod_byteAt_25 rfl ?_
      refine VR_bald hA d_Mod_byteAt_26 rfl (by omega) (by decide) ?_
      refine V_sipush (v := 255) d_Mod_byteAt_27 (by decide) ?_
      refine V_iand d_Mod_byteAt_30 ?_
      exact V_ireturn d_Mod_byteAt_31 rfl ⟨by rw [bya, if_pos ⟨h6, h14⟩, nI_clamp (by omega)]; rfl, rfl⟩
    · refine V_iconst (v := (-1)) d_Mod_byteAt_17 (by decide) ?_
      refine V_goto 31 d_Mod_byteAt_18 (by decide) ?_
      exact V_ireturn d_Mod_byteAt_31 rfl ⟨by rw [bya, if_neg (fun z => h14 z.2)], rfl⟩
def cnt (r : RS) (x : Int32) : Int32 := if x = 0 then gF r 18 else if x = 1 then gF r 20 else if x = 2 then gF r 8 else if x = 3 then gF r 11 + shv r else if x = 4 then (if gF r 19 = 0 then 0 else 1) else -1
set_option maxRecDepth 100000 in
set_option maxHeartbeats 4000000 in
theorem Mod_count {l : Launch} {D : va_G} {ac : Nat → ClassId} {o : Nat} {ad : Nat → Nat} {r : RS} (hA : rAD o ad) (x : Int32) : RCi l D ac o ad t_Mod_count [.int x] r (cnt r x) (sF r 0 0) := fun M0 => by
  refine Ct_of (by decide) (Nat.le_of_ble_eq_true rfl) ?_
  refine V_ar_n d_Mod_count_0 rfl ?_
  refine V_iconst (v := 0) d_Mod_count_1 (by decide) ?_
  refine VR_puti d_Mod_count_2 f_Mod_81 (by decide) ?_
  refine V_iload_n d_Mod_count_5 rfl ?_
  refine V_if_ne 16 d_Mod_count_6 (by decide) (fun h6 => ?_) (fun h6 => ?_)
  · refine V_iload_n d_Mod_count_16 rfl ?_
    refine V_iconst (v := 1) d_Mod_count_17 (by decide) ?_
    refine V_icmp_ne 28 d_Mod_count_18 (by decide) (fun h18 => ?_) (fun h18 => ?_)
    · refine V_iload_n d_Mod_count_28 rfl ?_
      refine V_iconst (v := 2) d_Mod_count_29 (by decide) ?_
      refine V_icmp_ne 40 d_Mod_count_30 (by decide) (fun h30 => ?_) (fun h30 => ?_)
      · refine V_iload_n d_Mod_count_40 rfl ?_
        refine V_iconst (v := 3) d_Mod_count_41 (by decide) ?_
        refine V_icmp_ne 57 d_Mod_count_42 (by decide) (fun h42 => ?_) (fun h42 => ?_)
        · refine V_iload_n d_Mod_count_57 rfl ?_
          refine V_iconst (v := 4) d_Mod_count_58 (by decide) ?_
          refine V_icmp_ne 77 d_Mod_count_59 (by decide) (fun h59 => ?_) (fun h59 => ?_)
          · refine V_iconst (v := (-1)) d_Mod_count_77 (by decide) ?_
            exact V_ireturn d_Mod_count_78 rfl ⟨by rw [cnt, if_neg h6, if_neg h18, if_neg h30, if_neg h42, if_neg h59], rfl⟩
          · refine V_ar_n d_Mod_count_62 rfl ?_
            refine VR_geti d_Mod_count_63 f_Mod_204 (by decide) ?_
            refine V_if_eq 73 d_Mod_count_66 (by decide) (fun h66 => ?_) (fun h66 => ?_)
            · refine V_iconst (v := 0) d_Mod_count_73 (by decide) ?_
              refine V_goto 78 d_Mod_count_74 (by decide) ?_
              exact V_ireturn d_Mod_count_78 rfl ⟨by rw [cnt, if_neg h6, if_neg h18, if_neg h30, if_neg h42, if_pos (Classical.not_not.mp h59), if_pos (show gF r 19 = 0 from h66)], rfl⟩
            · refine V_iconst (v := 1) d_Mod_count_69 (by decide) ?_
              refine V_goto 78 d_Mod_count_70 (by decide) ?_
              exact V_ireturn d_Mod_count_78 rfl ⟨by rw [cnt, if_neg h6, if_neg h18, if_neg h30, if_neg h42, if_pos (Classical.not_not.mp h59), if_neg (show ¬ gF r 19 = 0 from h66)], rfl⟩
        · refine V_ar_n d_Mod_count_45 rfl ?_
          refine VR_geti d_Mod_count_46 f_Mod_90 (by decide) ?_
          refine V_ar_n d_Mod_count_49 rfl ?_
          refine VR_ci0 d_Mod_count_50 c_Mod_93 (Mod_shelved hA) ⟨by decide, by decide⟩ rfl (Nat.le_of_ble_eq_true rfl) ?_
          refine V_iadd d_Mod_count_53 ?_
          refine V_goto 78 d_Mod_count_54 (by decide) ?_
          exact V_ireturn d_Mod_count_78 rfl ⟨by rw [cnt, if_neg h6, if_neg h18, if_neg h30, if_pos (Classical.not_not.mp h42)]; rfl, rfl⟩
      · refine V_ar_n d_Mod_count_33 rfl ?_
        refine VR_geti d_Mod_count_34 f_Mod_97 (by decide) ?_
        refine V_goto 78 d_Mod_count_37 (by decide) ?_
        exact V_ireturn d_Mod_count_78 rfl ⟨by rw [cnt, if_neg h6, if_neg h18, if_pos (Classical.not_not.mp h30)]; rfl, rfl⟩
    · refine V_ar_n d_Mod_count_21 rfl ?_
      refine VR_geti d_Mod_count_22 f_Mod_214 (by decide) ?_
      refine V_goto 78 d_Mod_count_25 (by decide) ?_
      exact V_ireturn d_Mod_count_78 rfl ⟨by rw [cnt, if_neg h6, if_pos (Classical.not_not.mp h18)]; rfl, rfl⟩
  · refine V_ar_n d_Mod_count_9 rfl ?_
    refine VR_geti d_Mod_count_10 f_Mod_145 (by decide) ?_
    refine V_goto 78 d_Mod_count_13 (by decide) ?_
    exact V_ireturn d_Mod_count_78 rfl ⟨by rw [cnt, if_pos (Classical.not_not.mp h6)]; rfl, rfl⟩
abbrev sok (r : RS) (x y : Int32) : Prop := ¬ isf r x = 0 ∧ ¬ y < 0 ∧ y ≤ 2
def siz (r : RS) (p : Nat) (x y : Int32) : Int32 := if sok r x y then (if y = 0 then gB r 2 p else if y = 1 then gB r 3 p else gB r 4 p) else 0
set_option maxRecDepth 100000 in
set_option maxHeartbeats 4000000 in
theorem Mod_size {l : Launch} {D : va_G} {ac : Nat → ClassId} {o : Nat} {ad : Nat → Nat} {r : RS} (hA : rAD o ad) {k p : Nat} (x y : Int32) (hy : sok r x y → x = nI k ∧ k < 8 ∧ stt r k = nI p ∧ p < 6200) : RCi l D ac o ad t_Mod_size [.int x, .int y] r (siz r p x y) (sF r 0 0) := fun M0 => by
  refine Ct_of (by decide) (Nat.le_of_ble_eq_true rfl) ?_
  refine V_ar_n d_Mod_size_0 rfl ?_
  refine V_iconst (v := 0) d_Mod_size_1 (by decide) ?_
  refine VR_puti d_Mod_size_2 f_Mod_81 (by decide) ?_
  refine V_ar_n d_Mod_size_5 rfl ?_
  refine V_iload_n d_Mod_size_6 rfl ?_
  refine VR_ci1 d_Mod_size_7 c_Mod_142 (Mod_isFull hA x) ⟨by decide, by decide⟩ rfl (Nat.le_of_ble_eq_true rfl) ?_
  refine V_if_eq 22 d_Mod_size_10 (by decide) (fun h10 => ?_) (fun h10 => ?_)
  · refine V_iconst (v := 0) d_Mod_size_22 (by decide) ?_
    exact V_ireturn d_Mod_size_23 rfl ⟨by rw [siz, if_neg (fun z => z.1 h10)], rfl⟩
  · refine V_iload_n d_Mod_size_13 rfl ?_
    refine V_if_lt 22 d_Mod_size_14 (by decide) (fun h14 => ?_) (fun h14 => ?_)
    · refine V_iconst (v := 0) d_Mod_size_22 (by decide) ?_
      exact V_ireturn d_Mod_size_23 rfl ⟨by rw [siz, if_neg (fun z => z.2.1 h14)], rfl⟩
    · refine V_iload_n d_Mod_size_17 rfl ?_
      refine V_iconst (v := 2) d_Mod_size_18 (by decide) ?_
      refine V_icmp_le 24 d_Mod_size_19 (by decide) (fun h19 => ?_) (fun h19 => ?_)
      · have hok : sok r x y := ⟨h10, h14, h19⟩
        obtain ⟨hx, hk, hst, hp⟩ := hy hok
        subst hx
        refine V_ar_n d_Mod_size_24 rfl ?_
        refine V_iload_n d_Mod_size_25 rfl ?_
        refine VR_ci1 d_Mod_size_26 c_Mod_119 (Mod_start hA (by omega)) ⟨by decide, by decide⟩ rfl (Nat.le_of_ble_eq_true rfl) ?_
        refine V_eqi (show _ = nI p from hst) ?_
        refine V_istore_n (lv' := [(3, .int (nI p)), (0, .ref o), (1, .int (nI k)), (2, .int y)]) d_Mod_size_29 (by decide) rfl ?_
        refine V_iload_n d_Mod_size_30 rfl ?_
        refine V_if_ne 43 d_Mod_size_31 (by decide) (fun h31 => ?_) (fun h31 => ?_)
        · refine V_iload_n d_Mod_size_43 rfl ?_
          refine V_iconst (v := 1) d_Mod_size_44 (by decide) ?_
          refine V_icmp_ne 57 d_Mod_size_45 (by decide) (fun h45 => ?_) (fun h45 => ?_)
          · refine V_ar_n d_Mod_size_57 rfl ?_
            refine VR_geta d_Mod_size_58 f_Mod_19 (by decide) ?_
            refine V_iload_n d_Mod_size_61 rfl ?_
            refine VR_iald hA d_Mod_size_62 rfl (by omega) (by decide) ?_
            exact V_ireturn d_Mod_size_63 rfl ⟨by rw [siz, if_pos hok, if_neg h31, if_neg h45]; rfl, rfl⟩
          · refine V_ar_n d_Mod_size_48 rfl ?_
            refine VR_geta d_Mod_size_49 f_Mod_16 (by decide) ?_
            refine V_iload_n d_Mod_size_52 rfl ?_
            refine VR_iald hA d_Mod_size_53 rfl (by omega) (by decide) ?_
            refine V_goto 63 d_Mod_size_54 (by decide) ?_
            exact V_ireturn d_Mod_size_63 rfl ⟨by rw [siz, if_pos hok, if_neg h31, if_pos (Classical.not_not.mp h45)]; rfl, rfl⟩
        · refine V_ar_n d_Mod_size_34 rfl ?_
          refine VR_geta d_Mod_size_35 f_Mod_13 (by decide) ?_
          refine V_iload_n d_Mod_size_38 rfl ?_
          refine VR_iald hA d_Mod_size_39 rfl (by omega) (by decide) ?_
          refine V_goto 63 d_Mod_size_40 (by decide) ?_
          exact V_ireturn d_Mod_size_63 rfl ⟨by rw [siz, if_pos hok, if_pos (Classical.not_not.mp h31)]; rfl, rfl⟩
      · refine V_iconst (v := 0) d_Mod_size_22 (by decide) ?_
        exact V_ireturn d_Mod_size_23 rfl ⟨by rw [siz, if_neg (fun z => h19 z.2.2)], rfl⟩
end
section
/-! The state with the file's length: s.1 the state, s.2 the length. -/
abbrev FS : Type := RS × Nat
abbrev okf (s : FS) : Prop := gF s.1 18 = nI s.2
def wp (s : FS) (v : Int32) (c : Nat) : FS := (wrt c s.1 s.2 v, s.2 + c)
def wpl (s : FS) : List (Int32 × Nat) → FS
  | [] => s
  | q :: l => wpl (wp s q.1 q.2) l
theorem wp_ok {s : FS} (h : okf s) (v : Int32) (c : Nat) : okf (wp s v c) := wrt_len c h
theorem wpl_ok {s : FS} (h : okf s) (l : List (Int32 × Nat)) : okf (wpl s l) := by
  induction l generalizing s with
  | nil => exact h
  | cons q l ih => exact ih (wp_ok h _ _)
theorem wpl_wl (s : FS) (l : List (Int32 × Nat)) : (wpl s l).1 = wl s.1 s.2 l := by
  induction l generalizing s with
  | nil => rfl
  | cons q l ih => exact ih _
def gon (r : RS) (n sd : Nat) (x : Int32) (wh : Nat) : Nat := if gom r sd x = 0 ∨ gF (szd r (gom r sd x)) 33 = 0 then n else if (gB r 31 (2 + 2 * sd + gow r sd x wh)).toInt64 = gom r sd x then n + 1 else n + 1 + nby (gom r sd x).toInt32
def gp (s : FS) (sd : Nat) (x : Int32) (wh : Nat) : FS := (gor s.1 s.2 sd x wh, gon s.1 s.2 sd x wh)
theorem gon_le (r : RS) (n sd : Nat) (x : Int32) (wh : Nat) : n ≤ gon r n sd x wh ∧ gon r n sd x wh ≤ n + 5 := by
  have := nby_le (gom r sd x).toInt32
  unfold gon
  split
  · omega
  · split <;> omega
theorem gp_ok {s : FS} (h : okf s) (sd : Nat) (x : Int32) (wh : Nat) : okf (gp s sd x wh) := by
  show gF (gor s.1 s.2 sd x wh) 18 = nI (gon s.1 s.2 sd x wh)
  unfold gor gon
  split
  · exact h
  · show gF (gos _ _ _ _ _ _) 18 = _
    unfold gos
    by_cases hc : (gB s.1 31 (2 + 2 * sd + gow s.1 sd x wh)).toInt64 = gom s.1 sd x
    · rw [if_pos hc, if_pos (show (gB (szd s.1 (gom s.1 sd x)) 31 (2 + 2 * sd + gow s.1 sd x wh)).toInt64 = gom s.1 sd x from hc)]
      exact wrt_len 1 h
    · rw [if_neg hc, if_neg (show ¬ (gB (szd s.1 (gom s.1 sd x)) 31 (2 + 2 * sd + gow s.1 sd x wh)).toInt64 = gom s.1 sd x from hc)]
      exact wrt_len _ (wrt_len 1 h)
theorem w1_B (r : RS) {k j : Nat} (e : Nat) (v : Int32) (h : j ≠ k) : gB (w1 r k e v) j = gB r j := va_up_ne _ _ h
theorem w1_self (r : RS) (k e : Nat) (v : Int32) : gB (w1 r k e v) k = upd (gB r k) e v := va_up_self _ _ _
theorem gor_F {k : Nat} (h1 : k ≠ 18) (h2 : k ≠ 33) (r : RS) (n sd : Nat) (x : Int32) (wh : Nat) : gF (gor r n sd x wh) k = gF r k := by
  have e : gF (szd r (gom r sd x)) k = gF r k := va_up_ne _ _ h2
  unfold gor
  split
  · exact e
  · show gF (gos _ _ _ _ _ _) k = _
    unfold gos
    split
    · exact (wrt_F h1 _ _ _ _).trans e
    · exact (wrt_F h1 _ _ _ _).trans ((wrt_F h1 _ _ _ _).trans e)
theorem gor_B {k : Nat} (h1 : k ≠ 17) (h2 : k ≠ 31) (r : RS) (n sd : Nat) (x : Int32) (wh : Nat) : gB (gor r n sd x wh) k = gB r k := by
  unfold gor
  split
  · rfl
  · unfold goe
    rw [w1_B _ _ _ h2, w1_B _ _ _ h2]
    unfold gos
    split
    · exact wrt_B h1 _ _ _ _
    · rw [w1_B _ _ _ h2]
      exact (wrt_B h1 _ _ _ _).trans (wrt_B h1 _ _ _ _)
theorem gor_7 (r : RS) (n : Nat) (x : Int32) {wh : Nat} (hw : wh ≤ 1) : gB (gor r n 0 x wh) 31 7 = gB r 31 7 := by
  have hg : gow r 0 x wh ≤ 1 := by unfold gow; split; · omega
                                   · split <;> omega
  unfold gor
  split
  · rfl
  · unfold goe
    rw [w1_self, pk_un (by decide), w1_self, pk_un (by decide)]
    unfold gos
    split
    · exact congrFun (wrt_B (by decide) _ _ _ _) 7
    · rw [w1_self, pk_un (by omega)]
      exact congrFun ((wrt_B (by decide) _ _ _ _).trans (wrt_B (by decide) _ _ _ _)) 7
/-- the two moves; wh0, wh1: which is older -/
def gt (s : FS) (x y : Int32) (wh0 wh1 : Nat) : FS := gp (gp s 0 x wh0) 1 y wh1
theorem gt_ok {s : FS} (h : okf s) (x y : Int32) (wh0 wh1 : Nat) : okf (gt s x y wh0 wh1) := gp_ok (gp_ok h _ _ _) _ _ _
theorem gt_le (s : FS) (x y : Int32) (wh0 wh1 : Nat) : s.2 ≤ (gt s x y wh0 wh1).2 ∧ (gt s x y wh0 wh1).2 ≤ s.2 + 10 := by
  have h1 := gon_le s.1 s.2 0 x wh0
  have h2 := gon_le (gp s 0 x wh0).1 (gp s 0 x wh0).2 1 y wh1
  have e1 : (gp s 0 x wh0).2 = gon s.1 s.2 0 x wh0 := rfl
  have e2 : (gt s x y wh0 wh1).2 = gon (gp s 0 x wh0).1 (gp s 0 x wh0).2 1 y wh1 := rfl
  omega
theorem gt_F {k : Nat} (h1 : k ≠ 18) (h2 : k ≠ 33) (s : FS) (x y : Int32) (wh0 wh1 : Nat) : gF (gt s x y wh0 wh1).1 k = gF s.1 k := (gor_F h1 h2 _ _ _ _ _).trans (gor_F h1 h2 _ _ _ _ _)
theorem gt_B {k : Nat} (h1 : k ≠ 17) (h2 : k ≠ 31) (s : FS) (x y : Int32) (wh0 wh1 : Nat) : gB (gt s x y wh0 wh1).1 k = gB s.1 k := (gor_B h1 h2 _ _ _ _ _).trans (gor_B h1 h2 _ _ _ _ _)
set_option maxRecDepth 100000 in
set_option maxHeartbeats 4000000 in
theorem Mod_goTo {l : Launch} {D : va_G} {ac : Nat → ClassId} {o : Nat} {ad : Nat → Nat} {s : FS} (hA : rAD o ad) (x y : Int32) {wh0 wh1 : Nat} (hs : okf s) (hb : s.2 + 10 ≤ 320000) (hw0 : wh0 ≤ 1) (hw1 : wh1 ≤ 1) (h6 : gB s.1 31 6 = nI wh0) (h7 : gB s.1 31 7 = nI wh1) : RCv l D ac o ad t_Mod_goTo [.int x, .int y] s.1 (gt s x y wh0 wh1).1 := fun M0 => by
  refine Ct_of (by decide) (Nat.le_of_ble_eq_true rfl) ?_
  have hl := gon_le s.1 s.2 0 x wh0
  refine V_ar_n d_Mod_goTo_0 rfl ?_
  refine V_iconst (v := nI 0) d_Mod_goTo_1 (by decide) ?_
  refine V_iload_n d_Mod_goTo_2 rfl ?_
  refine VR_cv2 d_Mod_goTo_3 c_Mod_176 (Mod_go hA x hs (by omega) (by decide) hw0 h6) ⟨by decide, by decide⟩ rfl (Nat.le_of_ble_eq_true rfl) ?_
  refine V_ar_n d_Mod_goTo_6 rfl ?_
  refine V_iconst (v := nI 1) d_Mod_goTo_7 (by decide) ?_
  refine V_iload_n d_Mod_goTo_8 rfl ?_
  refine VR_cv2 d_Mod_goTo_9 c_Mod_176 (Mod_go hA y (gp_ok hs 0 x wh0) (show gon s.1 s.2 0 x wh0 + 5 ≤ 320000 by omega) (by decide) hw1 ((gor_7 _ _ _ hw0).trans h7)) ⟨by decide, by decide⟩ rfl (Nat.le_of_ble_eq_true rfl) ?_
  exact V_return d_Mod_goTo_12 rfl ⟨rfl, rfl⟩
def bxo (r : RS) (b i : Nat) : Nat → Nat
  | 0 => b
  | m + 1 => if nst1 r i (b + m) = 1 then b + m else bxo r b i m
theorem bxo_le (r : RS) (b i m : Nat) : b ≤ bxo r b i m ∧ bxo r b i m ≤ b + m := by
  induction m with
  | zero => exact ⟨Nat.le_refl _, Nat.le_refl _⟩
  | succ m ih => unfold bxo; split <;> omega
set_option maxRecDepth 100000 in
set_option maxHeartbeats 4000000 in
theorem Mod_boxOf_5 {l : Launch} {D : va_G} {ac : Nat → ClassId} {o : Nat} {ad : Nat → Nat} {r : RS} {M0 : MP} (hA : rAD o ad) {b i : Nat} (hi : i < 6200) : ∀ m j : Nat, j + m = i → b ≤ j → V l D (tyl ac) t_Mod_boxOf 0 0 5 [(4, .int (nI j)), (3, .int (nI (bxo r b i (j - b)))), (0, .ref o), (1, .int (nI i)), (2, .int (nI b))] [] (rM ac o ad r M0) (fun rv M' => rv = some (.int (nI (bxo r b i (i - b)))) ∧ M' = rM ac o ad (r) M0) := by
  intro m
  induction m with
  | zero =>
    intro j h1 h2
    refine V_iload d_Mod_boxOf_5 rfl ?_
    refine V_iload_n d_Mod_boxOf_7 rfl ?_
    refine V_icmp_ge 47 d_Mod_boxOf_8 (by decide) (fun h8 => ?_) (fun h8 => ?_)
    · refine V_iload_n d_Mod_boxOf_47 rfl ?_
      exact V_ireturn d_Mod_boxOf_48 rfl ⟨by rw [show j = i by omega], rfl⟩
    · exact absurd (nI_le (show i ≤ j by omega) (by omega)) h8
  | succ m ih =>
    intro j h1 h2
    have hbx : bxo r b i (j + 1 - b) = if nst1 r i j = 1 then j else bxo r b i (j - b) := by rw [show j + 1 - b = (j - b) + 1 by omega]; show (if nst1 r i (b + (j - b)) = 1 then b + (j - b) else _) = _; rw [show b + (j - b) = j by omega]
    refine V_iload d_Mod_boxOf_5 rfl ?_
    refine V_iload_n d_Mod_boxOf_7 rfl ?_
    refine V_icmp_ge 47 d_Mod_boxOf_8 (by decide) (fun h8 => ?_) (fun h8 => ?_)
    · exact absurd h8 (nI_ge (by omega) (by omega))
    · refine V_ar_n d_Mod_boxOf_11 rfl ?_
      refine V_iload d_Mod_boxOf_12 rfl ?_
      refine VR_ci1 d_Mod_boxOf_14 c_Mod_116 (Mod_isBox hA (by omega)) ⟨by decide, by decide⟩ rfl (Nat.le_of_ble_eq_true rfl) ?_
      refine V_if_eq 39 d_Mod_boxOf_17 (by decide) (fun h17 => ?_) (fun h17 => ?_)
      · refine V_iload_n d_Mod_boxOf_39 rfl ?_
        refine V_eqi (show _ = nI (bxo r b i (j + 1 - b)) from by rw [hbx, if_neg (by rw [nst1, if_neg (fun z => z.1 h17)]; decide)]) ?_
        refine V_istore_n (lv' := [(3, .int (nI (bxo r b i (j + 1 - b)))), (4, .int (nI j)), (0, .ref o), (1, .int (nI i)), (2, .int (nI b))]) d_Mod_boxOf_40 (by decide) rfl ?_
        refine V_iinc (v := nI (j + 1)) (lv' := [(4, .int (nI (j + 1))), (3, .int (nI (bxo r b i (j + 1 - b)))), (0, .ref o), (1, .int (nI i)), (2, .int (nI b))]) 1 d_Mod_boxOf_41 rfl (nI_1 j) (by decide) rfl ?_
        refine V_goto 5 d_Mod_boxOf_44 (by decide) ?_
        exact ih (j + 1) (by omega) (by omega)
      · refine V_iload d_Mod_boxOf_20 rfl ?_
        refine V_ar_n d_Mod_boxOf_22 rfl ?_
        refine VR_geta d_Mod_boxOf_23 f_Mod_28 (by decide) ?_
        refine V_iload d_Mod_boxOf_26 rfl ?_
        refine VR_iald hA d_Mod_boxOf_28 rfl (by omega) (by decide) ?_
        refine V_iadd d_Mod_boxOf_29 ?_
        refine V_iload_n d_Mod_boxOf_30 rfl ?_
        refine V_icmp_le 39 d_Mod_boxOf_31 (by decide) (fun h31 => ?_) (fun h31 => ?_)
        · refine V_iload_n d_Mod_boxOf_39 rfl ?_
          refine V_eqi (show _ = nI (bxo r b i (j + 1 - b)) from by rw [hbx, if_neg (by rw [nst1, if_neg (fun z => absurd h31 (Int32.not_le.mpr z.2))]; decide)]) ?_
          refine V_istore_n (lv' := [(3, .int (nI (bxo r b i (j + 1 - b)))), (4, .int (nI j)), (0, .ref o), (1, .int (nI i)), (2, .int (nI b))]) d_Mod_boxOf_40 (by decide) rfl ?_
          refine V_iinc (v := nI (j + 1)) (lv' := [(4, .int (nI (j + 1))), (3, .int (nI (bxo r b i (j + 1 - b)))), (0, .ref o), (1, .int (nI i)), (2, .int (nI b))]) 1 d_Mod_boxOf_41 rfl (nI_1 j) (by decide) rfl ?_
          refine V_goto 5 d_Mod_boxOf_44 (by decide) ?_
          exact ih (j + 1) (by omega) (by omega)
        · refine V_iload d_Mod_boxOf_34 rfl ?_
          refine V_goto 40 d_Mod_boxOf_36 (by decide) ?_
          refine V_eqi (show _ = nI (bxo r b i (j + 1 - b)) from by rw [hbx, if_pos (by rw [nst1, if_pos ⟨h17, Int32.not_le.mp h31⟩])]) ?_
          refine V_istore_n (lv' := [(3, .int (nI (bxo r b i (j + 1 - b)))), (4, .int (nI j)), (0, .ref o), (1, .int (nI i)), (2, .int (nI b))]) d_Mod_boxOf_40 (by decide) rfl ?_
          refine V_iinc (v := nI (j + 1)) (lv' := [(4, .int (nI (j + 1))), (3, .int (nI (bxo r b i (j + 1 - b)))), (0, .ref o), (1, .int (nI i)), (2, .int (nI b))]) 1 d_Mod_boxOf_41 rfl (nI_1 j) (by decide) rfl ?_
          refine V_goto 5 d_Mod_boxOf_44 (by decide) ?_
          exact ih (j + 1) (by omega) (by omega)
set_option maxRecDepth 100000 in
set_option maxHeartbeats 4000000 in
theorem Mod_boxOf {l : Launch} {D : va_G} {ac : Nat → ClassId} {o : Nat} {ad : Nat → Nat} {r : RS} (hA : rAD o ad) {b i : Nat} (hbi : b ≤ i) (hi : i < 6200) : RCi l D ac o ad t_Mod_boxOf [.int (nI i), .int (nI b)] r (nI (bxo r b i (i - b))) r := fun M0 => by
  refine Ct_of (by decide) (Nat.le_of_ble_eq_true rfl) ?_
  refine V_iload_n d_Mod_boxOf_0 rfl ?_
  refine V_istore_n (lv' := [(3, .int (nI b)), (0, .ref o), (1, .int (nI i)), (2, .int (nI b))]) d_Mod_boxOf_1 (by decide) rfl ?_
  refine V_iload_n d_Mod_boxOf_2 rfl ?_
  refine V_istore (lv' := [(4, .int (nI b)), (3, .int (nI b)), (0, .ref o), (1, .int (nI i)), (2, .int (nI b))]) d_Mod_boxOf_3 (by decide) rfl ?_
  have h5 := Mod_boxOf_5 (l := l) (D := D) (ac := ac) (r := r) (M0 := M0) hA hi (i - b) b (by omega) (Nat.le_refl b)
  rw [Nat.sub_self] at h5
  exact h5
def lck (q : Nat) : Nat → RS → Nat → RS
  | 0, r, _ => r
  | m + 1, r, j => lck q m (w1 r 31 j (gB r 30 (8 * q + j))) (j + 1)
theorem lck_F (q k : Nat) : ∀ (m : Nat) (r : RS) (j : Nat), gF (lck q m r j) k = gF r k := by
  intro m
  induction m with
  | zero => intro r j; rfl
  | succ m ih => intro r j; exact ih _ _
theorem lck_B (q : Nat) {k : Nat} (hk : k ≠ 31) : ∀ (m : Nat) (r : RS) (j : Nat), gB (lck q m r j) k = gB r k := by
  intro m
  induction m with
  | zero => intro r j; rfl
  | succ m ih => intro r j; exact (ih _ _).trans (w1_B _ _ _ hk)
def lea (s : FS) (q : Nat) : FS := wp (lck q 8 (sF s.1 27 (nI q)) 0, s.2) 142 1
set_option maxRecDepth 100000 in
set_option maxHeartbeats 4000000 in
theorem Mod_leave_12 {l : Launch} {D : va_G} {ac : Nat → ClassId} {o : Nat} {ad : Nat → Nat} {M0 : MP} (hA : rAD o ad) {q n : Nat} (hq2 : q < 102) (hb : n + 1 ≤ 320000) : ∀ (m j : Nat) (r : RS), j + m = 8 → gF r 27 = nI q → gF r 18 = nI n → V l D (tyl ac) t_Mod_leave 0 0 12 [(1, .int (nI j)), (0, .ref o)] [] (rM ac o ad (r) M0) (fun rv M' => rv = none ∧ M' = rM ac o ad (wrt 1 (lck q m r j) n 142) M0) := by
  intro m
  induction m with
  | zero =>
    intro j r h1 hq hn
    refine V_iload_n d_Mod_leave_12 rfl ?_
    refine V_bipush (v := nI 8) d_Mod_leave_13 (by decide) ?_
    refine V_icmp_ge 44 d_Mod_leave_15 (by decide) (fun h15 => ?_) (fun h15 => ?_)
    · refine V_ar_n d_Mod_leave_44 rfl ?_
      refine V_sipush (v := 142) d_Mod_leave_45 (by decide) ?_
      refine V_iconst (v := nI 1) d_Mod_leave_48 (by decide) ?_
      refine VR_cv2 d_Mod_leave_49 c_Mod_149 (Mod_write hA _ (hn) (by decide) (by omega)) ⟨by decide, by decide⟩ rfl (Nat.le_of_ble_eq_true rfl) ?_
      exact V_return d_Mod_leave_52 rfl ⟨rfl, rfl⟩
    · exact absurd (nI_le (show 8 ≤ j by omega) (by omega)) h15
  | succ m ih =>
    intro j r h1 hq hn
    refine V_iload_n d_Mod_leave_12 rfl ?_
    refine V_bipush (v := nI 8) d_Mod_leave_13 (by decide) ?_
    refine V_icmp_ge 44 d_Mod_leave_15 (by decide) (fun h15 => ?_) (fun h15 => ?_)
    · exact absurd h15 (nI_ge (by omega) (by decide))
    · refine V_ar_n d_Mod_leave_18 rfl ?_
      refine VR_geta d_Mod_leave_19 f_Mod_78 (by decide) ?_
      refine V_iload_n d_Mod_leave_22 rfl ?_
      refine V_ar_n d_Mod_leave_23 rfl ?_
      refine VR_geta d_Mod_leave_24 f_Mod_75 (by decide) ?_
      refine V_bipush (v := nI 8) d_Mod_leave_27 (by decide) ?_
      refine V_ar_n d_Mod_leave_29 rfl ?_
      refine VR_geti d_Mod_leave_30 f_Mod_160 (by decide) ?_
      refine V_eqi (show _ = nI q from hq) ?_
      refine V_imul d_Mod_leave_33 ?_
      refine V_eqi (pk_mul 8 q) ?_
      refine V_iload_n d_Mod_leave_34 rfl ?_
      refine V_iadd d_Mod_leave_35 ?_
      refine V_eqi (nI_add _ _) ?_
      refine VR_iald hA d_Mod_leave_36 rfl (by omega) (by decide) ?_
      refine VR_iast hA d_Mod_leave_37 rfl (by omega) (by decide) ?_
      refine V_iinc (v := nI (j + 1)) (lv' := [(1, .int (nI (j + 1))), (0, .ref o)]) 0 d_Mod_leave_38 rfl (nI_1 j) (by decide) rfl ?_
      refine V_goto 12 d_Mod_leave_41 (by decide) ?_
      exact ih (j + 1) _ (by omega) hq hn
set_option maxRecDepth 100000 in
set_option maxHeartbeats 4000000 in
theorem Mod_leave {l : Launch} {D : va_G} {ac : Nat → ClassId} {o : Nat} {ad : Nat → Nat} {s : FS} (hA : rAD o ad) {q : Nat} (hq : gF s.1 27 = nI (q + 1)) (hq2 : q < 102) (hs : okf s) (hb : s.2 + 1 ≤ 320000) : RCv l D ac o ad t_Mod_leave [] s.1 (lea s q).1 := fun M0 => by
  refine Ct_of (by decide) (Nat.le_of_ble_eq_true rfl) ?_
  refine V_ar_n d_Mod_leave_0 rfl ?_
  refine V_dup d_Mod_leave_1 rfl ?_
  refine VR_geti d_Mod_leave_2 f_Mod_160 (by decide) ?_
  refine V_eqi (show _ = nI (q + 1) from hq) ?_
  refine V_iconst (v := 1) d_Mod_leave_5 (by decide) ?_
  refine V_isub d_Mod_leave_6 ?_
  refine V_eqi (nI_pred q) ?_
  refine VR_puti d_Mod_leave_7 f_Mod_160 (by decide) ?_
  refine V_iconst (v := nI 0) d_Mod_leave_10 (by decide) ?_
  refine V_istore_n (lv' := [(1, .int (nI 0)), (0, .ref o)]) d_Mod_leave_11 (by decide) rfl ?_
  exact Mod_leave_12 hA hq2 hb 8 0 _ rfl rfl hs
def enat (r : RS) (i b : Nat) : Int64 := if gB r 1 i = 4 then (gB r 25 (i - b)).toInt64 else (gB r 26 (i - b)).toInt64 - (gB r 3 i).toInt64
def ent (r : RS) (q i b : Nat) : RS := sF (szd (sL (w1 (w1 r 28 q (nI i + gB r 7 i)) 30 (8 * q) (nI i)) (vp_updL r.2.2.2 q (enat r i b))) (enat r i b)) 27 (nI (q + 1))
set_option maxRecDepth 100000 in
set_option maxHeartbeats 4000000 in
theorem Mod_enter {l : Launch} {D : va_G} {ac : Nat → ClassId} {o : Nat} {ad : Nat → Nat} {r : RS} (hA : rAD o ad) {q i b : Nat} (hq : gF r 27 = nI q) (hq2 : q < 102) (hbi : b ≤ i) (hi : i < 6200) (hib : i - b < 3100) : RCv l D ac o ad t_Mod_enter [.int (nI i), .int (nI b)] r (ent r q i b) := fun M0 => by
  refine Ct_of (by decide) (Nat.le_of_ble_eq_true rfl) ?_
  refine V_ar_n d_Mod_enter_0 rfl ?_
  refine VR_geta d_Mod_enter_1 f_Mod_68 (by decide) ?_
  refine V_ar_n d_Mod_enter_4 rfl ?_
  refine VR_geti d_Mod_enter_5 f_Mod_160 (by decide) ?_
  refine V_eqi (show _ = nI q from hq) ?_
  refine V_iload_n d_Mod_enter_8 rfl ?_
  refine V_ar_n d_Mod_enter_9 rfl ?_
  refine VR_geta d_Mod_enter_10 f_Mod_28 (by decide) ?_
  refine V_iload_n d_Mod_enter_13 rfl ?_
  refine VR_iald hA d_Mod_enter_14 rfl (by omega) (by decide) ?_
  refine V_iadd d_Mod_enter_15 ?_
  refine VR_iast hA d_Mod_enter_16 rfl (by omega) (by decide) ?_
  refine V_ar_n d_Mod_enter_17 rfl ?_
  refine VR_geta d_Mod_enter_18 f_Mod_75 (by decide) ?_
  refine V_bipush (v := nI 8) d_Mod_enter_21 (by decide) ?_
  refine V_ar_n d_Mod_enter_23 rfl ?_
  refine VR_geti d_Mod_enter_24 f_Mod_160 (by decide) ?_
  refine V_eqi (show _ = nI q from hq) ?_
  refine V_imul d_Mod_enter_27 ?_
  refine V_eqi (pk_mul 8 q) ?_
  refine V_iload_n d_Mod_enter_28 rfl ?_
  refine VR_iast hA d_Mod_enter_29 rfl (by omega) (by decide) ?_
  refine V_ar_n d_Mod_enter_30 rfl ?_
  refine VR_geta d_Mod_enter_31 f_Mod_71 (by decide) ?_
  refine V_ar_n d_Mod_enter_34 rfl ?_
  refine VR_geti d_Mod_enter_35 f_Mod_160 (by decide) ?_
  refine V_eqi (show _ = nI q from hq) ?_
  refine V_ar_n d_Mod_enter_38 rfl ?_
  refine VR_geta d_Mod_enter_39 f_Mod_7 (by decide) ?_
  refine V_iload_n d_Mod_enter_42 rfl ?_
  refine VR_iald hA d_Mod_enter_43 rfl (by omega) (by decide) ?_
  refine V_iconst (v := 4) d_Mod_enter_44 (by decide) ?_
  refine V_icmp_ne 60 d_Mod_enter_45 (by decide) (fun h45 => ?_) (fun h45 => ?_)
  · refine V_ar_n d_Mod_enter_60 rfl ?_
    refine VR_geta d_Mod_enter_61 f_Mod_65 (by decide) ?_
    refine V_iload_n d_Mod_enter_64 rfl ?_
    refine V_iload_n d_Mod_enter_65 rfl ?_
    refine V_isub d_Mod_enter_66 ?_
    refine V_eqi (pk_sub hbi) ?_
    refine VR_iald hA d_Mod_enter_67 rfl (by omega) (by decide) ?_
    refine V_i2l d_Mod_enter_68 ?_
    refine V_ar_n d_Mod_enter_69 rfl ?_
    refine VR_geta d_Mod_enter_70 f_Mod_16 (by decide) ?_
    refine V_iload_n d_Mod_enter_73 rfl ?_
    refine VR_iald hA d_Mod_enter_74 rfl (by omega) (by decide) ?_
    refine V_i2l d_Mod_enter_75 ?_
    refine V_lsub d_Mod_enter_76 ?_
    refine V_eql (show _ = enat r i b from (if_neg h45).symm) ?_
    refine VR_last hA d_Mod_enter_77 (by omega) ?_
    refine V_ar_n d_Mod_enter_78 rfl ?_
    refine V_ar_n d_Mod_enter_79 rfl ?_
    refine VR_geta d_Mod_enter_80 f_Mod_71 (by decide) ?_
    refine V_ar_n d_Mod_enter_83 rfl ?_
    refine VR_geti d_Mod_enter_84 f_Mod_160 (by decide) ?_
    refine V_eqi (show _ = nI q from hq) ?_
    refine VR_lald hA d_Mod_enter_87 (by omega) ?_
    refine V_eql (show _ = enat r i b from if_pos rfl) ?_
    refine VR_cv1 d_Mod_enter_88 c_Mod_163 (Mod_sized _) ⟨by decide, by decide⟩ rfl (Nat.le_of_ble_eq_true rfl) ?_
    refine V_ar_n d_Mod_enter_91 rfl ?_
    refine V_dup d_Mod_enter_92 rfl ?_
    refine VR_geti d_Mod_enter_93 f_Mod_160 (by decide) ?_
    refine V_eqi (show _ = nI q from hq) ?_
    refine V_iconst (v := nI 1) d_Mod_enter_96 (by decide) ?_
    refine V_iadd d_Mod_enter_97 ?_
    refine V_eqi (nI_1 q) ?_
    refine VR_puti d_Mod_enter_98 f_Mod_160 (by decide) ?_
    exact V_return d_Mod_enter_101 rfl ⟨rfl, rfl⟩
  · refine V_ar_n d_Mod_enter_48 rfl ?_
    refine VR_geta d_Mod_enter_49 f_Mod_62 (by decide) ?_
    refine V_iload_n d_Mod_enter_52 rfl ?_
    refine V_iload_n d_Mod_enter_53 rfl ?_
    refine V_isub d_Mod_enter_54 ?_
    refine V_eqi (pk_sub hbi) ?_
    refine VR_iald hA d_Mod_enter_55 rfl (by omega) (by decide) ?_
    refine V_i2l d_Mod_enter_56 ?_
    refine V_goto 77 d_Mod_enter_57 (by decide) ?_
    refine V_eql (show _ = enat r i b from (if_pos (Classical.not_not.mp h45)).symm) ?_
    refine VR_last hA d_Mod_enter_77 (by omega) ?_
    refine V_ar_n d_Mod_enter_78 rfl ?_
    refine V_ar_n d_Mod_enter_79 rfl ?_
    refine VR_geta d_Mod_enter_80 f_Mod_71 (by decide) ?_
    refine V_ar_n d_Mod_enter_83 rfl ?_
    refine VR_geti d_Mod_enter_84 f_Mod_160 (by decide) ?_
    refine V_eqi (show _ = nI q from hq) ?_
    refine VR_lald hA d_Mod_enter_87 (by omega) ?_
    refine V_eql (show _ = enat r i b from if_pos rfl) ?_
    refine VR_cv1 d_Mod_enter_88 c_Mod_163 (Mod_sized _) ⟨by decide, by decide⟩ rfl (Nat.le_of_ble_eq_true rfl) ?_
    refine V_ar_n d_Mod_enter_91 rfl ?_
    refine V_dup d_Mod_enter_92 rfl ?_
    refine VR_geti d_Mod_enter_93 f_Mod_160 (by decide) ?_
    refine V_eqi (show _ = nI q from hq) ?_
    refine V_iconst (v := nI 1) d_Mod_enter_96 (by decide) ?_
    refine V_iadd d_Mod_enter_97 ?_
    refine V_eqi (nI_1 q) ?_
    refine VR_puti d_Mod_enter_98 f_Mod_160 (by decide) ?_
    exact V_return d_Mod_enter_101 rfl ⟨rfl, rfl⟩
end
section
/-! writeCharacter, writeRule, finish -/
def chw1 (s : FS) (f : Nat) : FS := if gB s.1 15 f = 0 then wpl (w1 s.1 15 f 1, s.2) (fonl s.1 f) else s
def chw2 (s : FS) (f : Nat) : FS := if nI f = gF s.1 32 then s else (sF (wp s (nI (171 + f)) 1).1 32 (nI f), s.2 + 1)
def chw3 (s : FS) (c : Int32) : FS := if c ≤ 127 then s else wp s 128 1
def chw (s : FS) (f : Nat) (c : Int32) : FS := wp (chw3 (chw2 (chw1 s f) f) c) c 1
def tot (l : List (Int32 × Nat)) : Nat := (l.map (·.2)).sum
theorem wpl_2 (s : FS) (l : List (Int32 × Nat)) : (wpl s l).2 = s.2 + tot l := by
  induction l generalizing s with
  | nil => rfl
  | cons q l ih =>
    show (wpl (wp s q.1 q.2) l).2 = _
    rw [ih]
    show s.2 + q.2 + tot l = s.2 + (q.2 + tot l)
    omega
theorem wpl_F {k : Nat} (hk : k ≠ 18) (s : FS) (l : List (Int32 × Nat)) : gF (wpl s l).1 k = gF s.1 k := by
  induction l generalizing s with
  | nil => rfl
  | cons q l ih => exact (ih _).trans (wrt_F hk _ _ _ _)
theorem wpl_B {k : Nat} (hk : k ≠ 17) (s : FS) (l : List (Int32 × Nat)) : gB (wpl s l).1 k = gB s.1 k := by
  induction l generalizing s with
  | nil => rfl
  | cons q l ih => exact (ih _).trans (wrt_B hk _ _ _ _)
theorem wrt_T : ∀ (c : Nat) (r : RS) (n : Nat) (v : Int32), (wrt c r n v).2.1 = r.2.1 := by
  intro c
  induction c with
  | zero => intro r n v; rfl
  | succ c ih => intro r n v; exact ih _ _ _
theorem wpl_T (s : FS) (l : List (Int32 × Nat)) : (wpl s l).1.2.1 = s.1.2.1 := by
  induction l generalizing s with
  | nil => rfl
  | cons q l ih => exact (ih _).trans (wrt_T _ _ _ _)
theorem chw1_ok {s : FS} (h : okf s) (f : Nat) : okf (chw1 s f) ∧ s.2 ≤ (chw1 s f).2 ∧ (chw1 s f).2 ≤ s.2 + 18 := by
  unfold chw1
  split
  · refine ⟨wpl_ok (s := (w1 s.1 15 f 1, s.2)) h _, ?_, ?_⟩ <;> rw [wpl_2] <;> simp [fonl, tot]
  · exact ⟨h, by omega, by omega⟩
theorem chw2_ok {s : FS} (h : okf s) (f : Nat) : okf (chw2 s f) ∧ s.2 ≤ (chw2 s f).2 ∧ (chw2 s f).2 ≤ s.2 + 1 := by
  unfold chw2
  split
  · exact ⟨h, by omega, by omega⟩
  · exact ⟨wp_ok h (nI (171 + f)) 1, by simp, by simp⟩
theorem chw3_ok {s : FS} (h : okf s) (c : Int32) : okf (chw3 s c) ∧ s.2 ≤ (chw3 s c).2 ∧ (chw3 s c).2 ≤ s.2 + 1 := by
  unfold chw3
  split
  · exact ⟨h, by omega, by omega⟩
  · exact ⟨wp_ok h _ 1, by simp [wp], by simp [wp]⟩
theorem chw12_6 (s : FS) (f : Nat) : gB (chw2 (chw1 s f) f).1 6 = gB s.1 6 := by
  have h1 : gB (chw1 s f).1 6 = gB s.1 6 := by
    unfold chw1
    split
    · exact (wpl_B (by decide) _ _).trans (w1_B _ _ _ (by decide))
    · rfl
  unfold chw2
  split
  · exact h1
  · exact (wrt_B (by decide) _ _ _ _).trans h1
set_option maxRecDepth 100000 in
set_option maxHeartbeats 4000000 in
theorem Mod_wc_70 {l : Launch} {D : va_G} {ac : Nat → ClassId} {o : Nat} {ad : Nat → Nat} {s : FS} {M0 : MP} (hA : rAD o ad) {f i : Nat} {c : Int32} (hi : i < 6200) (hc : gB s.1 6 i = c) (hs : okf s) (hb : s.2 + 1 ≤ 320000) : V l D (tyl ac) t_Mod_writeCharacter 0 0 70 [(2, .int (nI f)), (0, .ref o), (1, .int (nI i))] [] (rM ac o ad (s.1) M0) (fun rv M' => rv = none ∧ M' = rM ac o ad ((wp s c 1).1) M0) := by
  refine V_ar_n d_Mod_writeCharacter_70 rfl ?_
  refine V_ar_n d_Mod_writeCharacter_71 rfl ?_
  refine VR_geta d_Mod_writeCharacter_72 f_Mod_25 (by decide) ?_
  refine V_iload_n d_Mod_writeCharacter_75 rfl ?_
  refine VR_iald hA d_Mod_writeCharacter_76 rfl (by omega) (by decide) ?_
  refine V_eqi (show _ = c from hc) ?_
  refine V_iconst (v := nI 1) d_Mod_writeCharacter_77 (by decide) ?_
  refine VR_cv2 d_Mod_writeCharacter_78 c_Mod_149 (Mod_write hA _ (hs) (by decide) (by omega)) ⟨by decide, by decide⟩ rfl (Nat.le_of_ble_eq_true rfl) ?_
  exact V_return d_Mod_writeCharacter_81 rfl ⟨rfl, rfl⟩
set_option maxRecDepth 100000 in
set_option maxHeartbeats 4000000 in
theorem Mod_wc_51 {l : Launch} {D : va_G} {ac : Nat → ClassId} {o : Nat} {ad : Nat → Nat} {s : FS} {M0 : MP} (hA : rAD o ad) {f i : Nat} {c : Int32} (hi : i < 6200) (hc : gB s.1 6 i = c) (hs : okf s) (hb : s.2 + 2 ≤ 320000) : V l D (tyl ac) t_Mod_writeCharacter 0 0 51 [(2, .int (nI f)), (0, .ref o), (1, .int (nI i))] [] (rM ac o ad (s.1) M0) (fun rv M' => rv = none ∧ M' = rM ac o ad ((wp (chw3 s c) c 1).1) M0) := by
  refine V_ar_n d_Mod_writeCharacter_51 rfl ?_
  refine VR_geta d_Mod_writeCharacter_52 f_Mod_25 (by decide) ?_
  refine V_iload_n d_Mod_writeCharacter_55 rfl ?_
  refine VR_iald hA d_Mod_writeCharacter_56 rfl (by omega) (by decide) ?_
  refine V_eqi (show _ = c from hc) ?_
  refine V_bipush (v := 127) d_Mod_writeCharacter_57 (by decide) ?_
  refine V_icmp_le 70 d_Mod_writeCharacter_59 (by decide) (fun h59 => ?_) (fun h59 => ?_)
  · rw [chw3, if_pos h59]
    exact Mod_wc_70 hA hi hc hs (by omega)
  · refine V_ar_n d_Mod_writeCharacter_62 rfl ?_
    refine V_sipush (v := 128) d_Mod_writeCharacter_63 (by decide) ?_
    refine V_iconst (v := nI 1) d_Mod_writeCharacter_66 (by decide) ?_
    refine VR_cv2 d_Mod_writeCharacter_67 c_Mod_149 (Mod_write hA _ (hs) (by decide) (by omega)) ⟨by decide, by decide⟩ rfl (Nat.le_of_ble_eq_true rfl) ?_
    rw [chw3, if_neg h59]
    exact Mod_wc_70 (s := wp s 128 1) hA hi ((congrFun (wrt_B (by decide) _ _ _ _) i).trans hc) (wp_ok hs _ 1) (by simp only [wp]; omega)
set_option maxRecDepth 100000 in
set_option maxHeartbeats 4000000 in
theorem Mod_wc_28 {l : Launch} {D : va_G} {ac : Nat → ClassId} {o : Nat} {ad : Nat → Nat} {s : FS} {M0 : MP} (hA : rAD o ad) {f i : Nat} {c : Int32} (hi : i < 6200) (hf : f < 32) (hc : gB s.1 6 i = c) (hs : okf s) (hb : s.2 + 3 ≤ 320000) : V l D (tyl ac) t_Mod_writeCharacter 0 0 28 [(2, .int (nI f)), (0, .ref o), (1, .int (nI i))] [] (rM ac o ad (s.1) M0) (fun rv M' => rv = none ∧ M' = rM ac o ad ((wp (chw3 (chw2 s f) c) c 1).1) M0) := by
  refine V_iload_n d_Mod_writeCharacter_28 rfl ?_
  refine V_ar_n d_Mod_writeCharacter_29 rfl ?_
  refine VR_geti d_Mod_writeCharacter_30 f_Mod_182 (by decide) ?_
  refine V_icmp_eq 51 d_Mod_writeCharacter_33 (by decide) (fun h33 => ?_) (fun h33 => ?_)
  · rw [chw2, if_pos h33]
    exact Mod_wc_51 hA hi hc hs (by omega)
  · refine V_ar_n d_Mod_writeCharacter_36 rfl ?_
    refine V_sipush (v := nI 171) d_Mod_writeCharacter_37 (by decide) ?_
    refine V_iload_n d_Mod_writeCharacter_40 rfl ?_
    refine V_iadd d_Mod_writeCharacter_41 ?_
    refine V_eqi (nI_add _ _) ?_
    refine V_iconst (v := nI 1) d_Mod_writeCharacter_42 (by decide) ?_
    refine VR_cv2 d_Mod_writeCharacter_43 c_Mod_149 (Mod_write hA _ (hs) (by decide) (by omega)) ⟨by decide, by decide⟩ rfl (Nat.le_of_ble_eq_true rfl) ?_
    refine V_ar_n d_Mod_writeCharacter_46 rfl ?_
    refine V_iload_n d_Mod_writeCharacter_47 rfl ?_
    refine VR_puti d_Mod_writeCharacter_48 f_Mod_182 (by decide) ?_
    rw [chw2, if_neg h33]
    exact Mod_wc_51 (s := (sF (wp s (nI (171 + f)) 1).1 32 (nI f), s.2 + 1)) hA hi ((congrFun (wrt_B (by decide) _ _ _ _) i).trans hc) (wp_ok hs (nI (171 + f)) 1) (show s.2 + 1 + 2 ≤ 320000 by omega)
set_option maxRecDepth 100000 in
set_option maxHeartbeats 4000000 in
theorem Mod_writeCharacter {l : Launch} {D : va_G} {ac : Nat → ClassId} {o : Nat} {ad : Nat → Nat} {s : FS} (hA : rAD o ad) {f i : Nat} {c : Int32} (hi : i < 6200) (hf : f < 32) (hfi : gB s.1 5 i = nI f) (hc : gB s.1 6 i = c) (hs : okf s) (hb : s.2 + 21 ≤ 320000) : RCv l D ac o ad t_Mod_writeCharacter [.int (nI i)] s.1 (chw s f c).1 := fun M0 => by
  refine Ct_of (by decide) (Nat.le_of_ble_eq_true rfl) ?_
  refine V_ar_n d_Mod_writeCharacter_0 rfl ?_
  refine VR_geta d_Mod_writeCharacter_1 f_Mod_22 (by decide) ?_
  refine V_iload_n d_Mod_writeCharacter_4 rfl ?_
  refine VR_iald hA d_Mod_writeCharacter_5 rfl (by omega) (by decide) ?_
  refine V_eqi (show _ = nI f from hfi) ?_
  refine V_istore_n (lv' := [(2, .int (nI f)), (0, .ref o), (1, .int (nI i))]) d_Mod_writeCharacter_6 (by decide) rfl ?_
  refine V_ar_n d_Mod_writeCharacter_7 rfl ?_
  refine VR_geta d_Mod_writeCharacter_8 f_Mod_47 (by decide) ?_
  refine V_iload_n d_Mod_writeCharacter_11 rfl ?_
  refine VR_zald hA d_Mod_writeCharacter_12 rfl (by omega) (by decide) ?_
  refine V_if_ne 28 d_Mod_writeCharacter_13 (by decide) (fun h13 => ?_) (fun h13 => ?_)
  · rw [chw, chw1, if_neg h13]
    exact Mod_wc_28 hA hi hf hc hs (by omega)
  · have h0 : gB s.1 15 f = 0 := Classical.not_not.mp h13
    refine V_ar_n d_Mod_writeCharacter_16 rfl ?_
    refine VR_geta d_Mod_writeCharacter_17 f_Mod_47 (by decide) ?_
    refine V_iload_n d_Mod_writeCharacter_20 rfl ?_
    refine V_iconst (v := 1) d_Mod_writeCharacter_21 (by decide) ?_
    refine VR_zast hA d_Mod_writeCharacter_22 rfl (by omega) (by decide) ?_
    refine V_ar_n d_Mod_writeCharacter_23 rfl ?_
    refine V_iload_n d_Mod_writeCharacter_24 rfl ?_
    refine VR_cv1 d_Mod_writeCharacter_25 c_Mod_179 (Mod_writeFont (r := w1 s.1 15 f 1) hA hs (by omega) hf) ⟨by decide, by decide⟩ rfl (Nat.le_of_ble_eq_true rfl) ?_
    have ho := chw1_ok hs f
    have he : (chw1 s f).1 = wl (w1 s.1 15 f 1) s.2 (fonl (w1 s.1 15 f 1) f) := by rw [chw1, if_pos h0]; exact wpl_wl _ _
    rw [← he]
    exact Mod_wc_28 hA hi hf (by rw [chw1, if_pos h0]; exact (congrFun ((wpl_B (by decide) _ _).trans (w1_B _ _ _ (by decide))) i).trans hc) ho.1 (by omega)
def rsel (r : RS) (k i bx : Nat) : Int32 := if gB r k i = -2147483648 then gB r k bx else gB r k i
/-- what a rule writes: A: across -/
def wr1 (s : FS) (A w e x y : Int32) (wh0 wh1 : Nat) : FS := wpl (gt s x y wh0 wh1) [(if A = 0 then 137 else 132, 1), (e, 4), (w, 4)]
def wr2 (s : FS) (A w : Int32) : FS := if A = 0 then s else (w1 (szd s.1 ((gB s.1 31 0).toInt64 + w.toInt64)) 31 0 (gB s.1 31 0 + w), s.2)
def wr3 (s : FS) (A w e x y : Int32) (wh0 wh1 : Nat) : FS := if 0 < w ∧ 0 < e then wr2 (wr1 s A w e x y wh0 wh1) A w else s
def acr (r : RS) (bx : Nat) : Int32 := if gB r 1 bx = 4 then 1 else 0
def wru (s : FS) (i bx b wh0 wh1 : Nat) : FS := wr3 s (acr s.1 bx) (rsel s.1 2 i bx) (rsel s.1 3 i bx + rsel s.1 4 i bx) (gB s.1 25 (i - b)) (gB s.1 26 (i - b)) wh0 wh1
set_option maxRecDepth 100000 in
set_option maxHeartbeats 4000000 in
theorem Mod_wr_153 {l : Launch} {D : va_G} {ac : Nat → ClassId} {o : Nat} {ad : Nat → Nat} {s : FS} {M0 : MP} (hA : rAD o ad) {i bx b : Nat} {A w h d : Int32} (hs : okf s) (hb : s.2 + 8 ≤ 320000) : V l D (tyl ac) t_Mod_writeRule 0 0 153 [(7, .int d), (6, .int h), (5, .int w), (4, .int A), (0, .ref o), (1, .int (nI i)), (2, .int (nI bx)), (3, .int (nI b))] [] (rM ac o ad (s.1) M0) (fun rv M' => rv = none ∧ M' = rM ac o ad ((wr2 (wpl s [(h + d, 4), (w, 4)]) A w).1) M0) := by
  refine V_ar_n d_Mod_writeRule_153 rfl ?_
  refine V_iload d_Mod_writeRule_154 rfl ?_
  refine V_iload d_Mod_writeRule_156 rfl ?_
  refine V_iadd d_Mod_writeRule_158 ?_
  refine V_iconst (v := nI 4) d_Mod_writeRule_159 (by decide) ?_
  refine VR_cv2 d_Mod_writeRule_160 c_Mod_149 (Mod_write hA _ (hs) (by decide) (by omega)) ⟨by decide, by decide⟩ rfl (Nat.le_of_ble_eq_true rfl) ?_
  refine V_ar_n d_Mod_writeRule_163 rfl ?_
  refine V_iload d_Mod_writeRule_164 rfl ?_
  refine V_iconst (v := nI 4) d_Mod_writeRule_166 (by decide) ?_
  refine VR_cv2 d_Mod_writeRule_167 c_Mod_149 (Mod_write hA _ (wrt_len 4 hs) (by decide) (by omega)) ⟨by decide, by decide⟩ rfl (Nat.le_of_ble_eq_true rfl) ?_
  refine V_iload d_Mod_writeRule_170 rfl ?_
  refine V_if_eq 201 d_Mod_writeRule_172 (by decide) (fun h172 => ?_) (fun h172 => ?_)
  · rw [wr2, if_pos h172]
    exact V_return d_Mod_writeRule_201 rfl ⟨rfl, rfl⟩
  · refine V_ar_n d_Mod_writeRule_175 rfl ?_
    refine V_ar_n d_Mod_writeRule_176 rfl ?_
    refine VR_geta d_Mod_writeRule_177 f_Mod_78 (by decide) ?_
    refine V_iconst (v := nI 0) d_Mod_writeRule_180 (by decide) ?_
    refine VR_iald hA d_Mod_writeRule_181 rfl (by omega) (by decide) ?_
    refine V_i2l d_Mod_writeRule_182 ?_
    refine V_iload d_Mod_writeRule_183 rfl ?_
    refine V_i2l d_Mod_writeRule_185 ?_
    refine V_ladd d_Mod_writeRule_186 ?_
    refine VR_cv1 d_Mod_writeRule_187 c_Mod_163 (Mod_sized _) ⟨by decide, by decide⟩ rfl (Nat.le_of_ble_eq_true rfl) ?_
    refine V_ar_n d_Mod_writeRule_190 rfl ?_
    refine VR_geta d_Mod_writeRule_191 f_Mod_78 (by decide) ?_
    refine V_iconst (v := nI 0) d_Mod_writeRule_194 (by decide) ?_
    refine V_dup2 d_Mod_writeRule_195 rfl rfl ?_
    refine VR_iald hA d_Mod_writeRule_196 rfl (by omega) (by decide) ?_
    refine V_iload d_Mod_writeRule_197 rfl ?_
    refine V_iadd d_Mod_writeRule_199 ?_
    refine VR_iast hA d_Mod_writeRule_200 rfl (by omega) (by decide) ?_
    rw [wr2, if_neg h172]
    exact V_return d_Mod_writeRule_201 rfl ⟨rfl, rfl⟩
set_option maxRecDepth 100000 in
set_option maxHeartbeats 4000000 in
theorem Mod_wr_101 {l : Launch} {D : va_G} {ac : Nat → ClassId} {o : Nat} {ad : Nat → Nat} {s : FS} {M0 : MP} (hA : rAD o ad) {i bx b wh0 wh1 : Nat} {A w h d : Int32} (hi : i < 6200) (hbx : bx < 6200) (hbi : b ≤ i) (hib : i - b < 3100) (hs : okf s) (hb : s.2 + 19 ≤ 320000) (hw0 : wh0 ≤ 1) (hw1 : wh1 ≤ 1) (h6 : gB s.1 31 6 = nI wh0) (h7 : gB s.1 31 7 = nI wh1) : V l D (tyl ac) t_Mod_writeRule 0 0 101 [(7, .int d), (6, .int h), (5, .int w), (4, .int A), (0, .ref o), (1, .int (nI i)), (2, .int (nI bx)), (3, .int (nI b))] [] (rM ac o ad (s.1) M0) (fun rv M' => rv = none ∧ M' = rM ac o ad ((wr3 s A w (h + d) (gB s.1 25 (i - b)) (gB s.1 26 (i - b)) wh0 wh1).1) M0) := by
  refine V_iload d_Mod_writeRule_101 rfl ?_
  refine V_if_le 201 d_Mod_writeRule_103 (by decide) (fun h103 => ?_) (fun h103 => ?_)
  · rw [wr3, if_neg (fun z => absurd h103 (Int32.not_le.mpr z.1))]
    exact V_return d_Mod_writeRule_201 rfl ⟨rfl, rfl⟩
  · refine V_iload d_Mod_writeRule_106 rfl ?_
    refine V_iload d_Mod_writeRule_108 rfl ?_
    refine V_iadd d_Mod_writeRule_110 ?_
    refine V_if_le 201 d_Mod_writeRule_111 (by decide) (fun h111 => ?_) (fun h111 => ?_)
    · rw [wr3, if_neg (fun z => absurd h111 (Int32.not_le.mpr z.2))]
      exact V_return d_Mod_writeRule_201 rfl ⟨rfl, rfl⟩
    · rw [wr3, if_pos ⟨Int32.not_le.mp h103, Int32.not_le.mp h111⟩]
      have hg := gt_le s (gB s.1 25 (i - b)) (gB s.1 26 (i - b)) wh0 wh1
      have hgo := gt_ok hs (gB s.1 25 (i - b)) (gB s.1 26 (i - b)) wh0 wh1
      unfold wr1
      generalize hG : gt s (gB s.1 25 (i - b)) (gB s.1 26 (i - b)) wh0 wh1 = G at hg hgo ⊢
      refine V_ar_n d_Mod_writeRule_114 rfl ?_
      refine V_ar_n d_Mod_writeRule_115 rfl ?_
      refine VR_geta d_Mod_writeRule_116 f_Mod_62 (by decide) ?_
      refine V_iload_n d_Mod_writeRule_119 rfl ?_
      refine V_iload_n d_Mod_writeRule_120 rfl ?_
      refine V_isub d_Mod_writeRule_121 ?_
      refine V_eqi (pk_sub hbi) ?_
      refine VR_iald hA d_Mod_writeRule_122 rfl (by omega) (by decide) ?_
      refine V_ar_n d_Mod_writeRule_123 rfl ?_
      refine VR_geta d_Mod_writeRule_124 f_Mod_65 (by decide) ?_
      refine V_iload_n d_Mod_writeRule_127 rfl ?_
      refine V_iload_n d_Mod_writeRule_128 rfl ?_
      refine V_isub d_Mod_writeRule_129 ?_
      refine V_eqi (pk_sub hbi) ?_
      refine VR_iald hA d_Mod_writeRule_130 rfl (by omega) (by decide) ?_
      refine VR_cv2 d_Mod_writeRule_131 c_Mod_185 (Mod_goTo hA _ _ hs (by omega) hw0 hw1 h6 h7) ⟨by decide, by decide⟩ rfl (Nat.le_of_ble_eq_true rfl) ?_
      refine V_ar_n d_Mod_writeRule_134 rfl ?_
      refine V_iload d_Mod_writeRule_135 rfl ?_
      refine V_if_eq 146 d_Mod_writeRule_137 (by decide) (fun h137 => ?_) (fun h137 => ?_)
      · rw [hG]
        refine V_sipush (v := 137) d_Mod_writeRule_146 (by decide) ?_
        refine V_iconst (v := nI 1) d_Mod_writeRule_149 (by decide) ?_
        refine VR_cv2 d_Mod_writeRule_150 c_Mod_149 (Mod_write hA _ (hgo) (by decide) (by omega)) ⟨by decide, by decide⟩ rfl (Nat.le_of_ble_eq_true rfl) ?_
        rw [if_pos h137]
        exact Mod_wr_153 (s := wp G 137 1) hA (wp_ok hgo _ 1) (by simp only [wp]; omega)
      · rw [hG]
        refine V_sipush (v := 132) d_Mod_writeRule_140 (by decide) ?_
        refine V_goto 149 d_Mod_writeRule_143 (by decide) ?_
        refine V_iconst (v := nI 1) d_Mod_writeRule_149 (by decide) ?_
        refine VR_cv2 d_Mod_writeRule_150 c_Mod_149 (Mod_write hA _ (hgo) (by decide) (by omega)) ⟨by decide, by decide⟩ rfl (Nat.le_of_ble_eq_true rfl) ?_
        rw [if_neg h137]
        exact Mod_wr_153 (s := wp G 132 1) hA (wp_ok hgo _ 1) (by simp only [wp]; omega)
set_option maxRecDepth 100000 in
set_option maxHeartbeats 4000000 in
theorem Mod_wr_73 {l : Launch} {D : va_G} {ac : Nat → ClassId} {o : Nat} {ad : Nat → Nat} {s : FS} {M0 : MP} (hA : rAD o ad) {i bx b wh0 wh1 : Nat} {A w h : Int32} (hi : i < 6200) (hbx : bx < 6200) (hbi : b ≤ i) (hib : i - b < 3100) (hs : okf s) (hb : s.2 + 19 ≤ 320000) (hw0 : wh0 ≤ 1) (hw1 : wh1 ≤ 1) (h6 : gB s.1 31 6 = nI wh0) (h7 : gB s.1 31 7 = nI wh1) : V l D (tyl ac) t_Mod_writeRule 0 0 73 [(6, .int h), (5, .int w), (4, .int A), (0, .ref o), (1, .int (nI i)), (2, .int (nI bx)), (3, .int (nI b))] [] (rM ac o ad (s.1) M0) (fun rv M' => rv = none ∧ M' = rM ac o ad ((wr3 s A w (h + rsel s.1 4 i bx) (gB s.1 25 (i - b)) (gB s.1 26 (i - b)) wh0 wh1).1) M0) := by
  refine V_ar_n d_Mod_writeRule_73 rfl ?_
  refine VR_geta d_Mod_writeRule_74 f_Mod_19 (by decide) ?_
  refine V_iload_n d_Mod_writeRule_77 rfl ?_
  refine VR_iald hA d_Mod_writeRule_78 rfl (by omega) (by decide) ?_
  refine V_ldc d_Mod_writeRule_79 k_Mod_115 ?_
  refine V_icmp_ne 93 d_Mod_writeRule_81 (by decide) (fun h81 => ?_) (fun h81 => ?_)
  · refine V_ar_n d_Mod_writeRule_93 rfl ?_
    refine VR_geta d_Mod_writeRule_94 f_Mod_19 (by decide) ?_
    refine V_iload_n d_Mod_writeRule_97 rfl ?_
    refine VR_iald hA d_Mod_writeRule_98 rfl (by omega) (by decide) ?_
    refine V_eqi (show _ = rsel s.1 4 i bx from (if_neg h81).symm) ?_
    refine V_istore (lv' := [(7, .int (rsel s.1 4 i bx)), (6, .int h), (5, .int w), (4, .int A), (0, .ref o), (1, .int (nI i)), (2, .int (nI bx)), (3, .int (nI b))]) d_Mod_writeRule_99 (by decide) rfl ?_
    exact Mod_wr_101 hA hi hbx hbi hib hs hb hw0 hw1 h6 h7
  · refine V_ar_n d_Mod_writeRule_84 rfl ?_
    refine VR_geta d_Mod_writeRule_85 f_Mod_19 (by decide) ?_
    refine V_iload_n d_Mod_writeRule_88 rfl ?_
    refine VR_iald hA d_Mod_writeRule_89 rfl (by omega) (by decide) ?_
    refine V_goto 99 d_Mod_writeRule_90 (by decide) ?_
    refine V_eqi (show _ = rsel s.1 4 i bx from (if_pos (Classical.not_not.mp h81)).symm) ?_
    refine V_istore (lv' := [(7, .int (rsel s.1 4 i bx)), (6, .int h), (5, .int w), (4, .int A), (0, .ref o), (1, .int (nI i)), (2, .int (nI bx)), (3, .int (nI b))]) d_Mod_writeRule_99 (by decide) rfl ?_
    exact Mod_wr_101 hA hi hbx hbi hib hs hb hw0 hw1 h6 h7
set_option maxRecDepth 100000 in
set_option maxHeartbeats 4000000 in
theorem Mod_wr_45 {l : Launch} {D : va_G} {ac : Nat → ClassId} {o : Nat} {ad : Nat → Nat} {s : FS} {M0 : MP} (hA : rAD o ad) {i bx b wh0 wh1 : Nat} {A w : Int32} (hi : i < 6200) (hbx : bx < 6200) (hbi : b ≤ i) (hib : i - b < 3100) (hs : okf s) (hb : s.2 + 19 ≤ 320000) (hw0 : wh0 ≤ 1) (hw1 : wh1 ≤ 1) (h6 : gB s.1 31 6 = nI wh0) (h7 : gB s.1 31 7 = nI wh1) : V l D (tyl ac) t_Mod_writeRule 0 0 45 [(5, .int w), (4, .int A), (0, .ref o), (1, .int (nI i)), (2, .int (nI bx)), (3, .int (nI b))] [] (rM ac o ad (s.1) M0) (fun rv M' => rv = none ∧ M' = rM ac o ad ((wr3 s A w (rsel s.1 3 i bx + rsel s.1 4 i bx) (gB s.1 25 (i - b)) (gB s.1 26 (i - b)) wh0 wh1).1) M0) := by
  refine V_ar_n d_Mod_writeRule_45 rfl ?_
  refine VR_geta d_Mod_writeRule_46 f_Mod_16 (by decide) ?_
  refine V_iload_n d_Mod_writeRule_49 rfl ?_
  refine VR_iald hA d_Mod_writeRule_50 rfl (by omega) (by decide) ?_
  refine V_ldc d_Mod_writeRule_51 k_Mod_115 ?_
  refine V_icmp_ne 65 d_Mod_writeRule_53 (by decide) (fun h53 => ?_) (fun h53 => ?_)
  · refine V_ar_n d_Mod_writeRule_65 rfl ?_
    refine VR_geta d_Mod_writeRule_66 f_Mod_16 (by decide) ?_
    refine V_iload_n d_Mod_writeRule_69 rfl ?_
    refine VR_iald hA d_Mod_writeRule_70 rfl (by omega) (by decide) ?_
    refine V_eqi (show _ = rsel s.1 3 i bx from (if_neg h53).symm) ?_
    refine V_istore (lv' := [(6, .int (rsel s.1 3 i bx)), (5, .int w), (4, .int A), (0, .ref o), (1, .int (nI i)), (2, .int (nI bx)), (3, .int (nI b))]) d_Mod_writeRule_71 (by decide) rfl ?_
    exact Mod_wr_73 hA hi hbx hbi hib hs hb hw0 hw1 h6 h7
  · refine V_ar_n d_Mod_writeRule_56 rfl ?_
    refine VR_geta d_Mod_writeRule_57 f_Mod_16 (by decide) ?_
    refine V_iload_n d_Mod_writeRule_60 rfl ?_
    refine VR_iald hA d_Mod_writeRule_61 rfl (by omega) (by decide) ?_
    refine V_goto 71 d_Mod_writeRule_62 (by decide) ?_
    refine V_eqi (show _ = rsel s.1 3 i bx from (if_pos (Classical.not_not.mp h53)).symm) ?_
    refine V_istore (lv' := [(6, .int (rsel s.1 3 i bx)), (5, .int w), (4, .int A), (0, .ref o), (1, .int (nI i)), (2, .int (nI bx)), (3, .int (nI b))]) d_Mod_writeRule_71 (by decide) rfl ?_
    exact Mod_wr_73 hA hi hbx hbi hib hs hb hw0 hw1 h6 h7
set_option maxRecDepth 100000 in
set_option maxHeartbeats 4000000 in
theorem Mod_wr_17 {l : Launch} {D : va_G} {ac : Nat → ClassId} {o : Nat} {ad : Nat → Nat} {s : FS} {M0 : MP} (hA : rAD o ad) {i bx b wh0 wh1 : Nat} {A : Int32} (hi : i < 6200) (hbx : bx < 6200) (hbi : b ≤ i) (hib : i - b < 3100) (hs : okf s) (hb : s.2 + 19 ≤ 320000) (hw0 : wh0 ≤ 1) (hw1 : wh1 ≤ 1) (h6 : gB s.1 31 6 = nI wh0) (h7 : gB s.1 31 7 = nI wh1) : V l D (tyl ac) t_Mod_writeRule 0 0 17 [(4, .int A), (0, .ref o), (1, .int (nI i)), (2, .int (nI bx)), (3, .int (nI b))] [] (rM ac o ad (s.1) M0) (fun rv M' => rv = none ∧ M' = rM ac o ad ((wr3 s A (rsel s.1 2 i bx) (rsel s.1 3 i bx + rsel s.1 4 i bx) (gB s.1 25 (i - b)) (gB s.1 26 (i - b)) wh0 wh1).1) M0) := by
  refine V_ar_n d_Mod_writeRule_17 rfl ?_
  refine VR_geta d_Mod_writeRule_18 f_Mod_13 (by decide) ?_
  refine V_iload_n d_Mod_writeRule_21 rfl ?_
  refine VR_iald hA d_Mod_writeRule_22 rfl (by omega) (by decide) ?_
  refine V_ldc d_Mod_writeRule_23 k_Mod_115 ?_
  refine V_icmp_ne 37 d_Mod_writeRule_25 (by decide) (fun h25 => ?_) (fun h25 => ?_)
  · refine V_ar_n d_Mod_writeRule_37 rfl ?_
    refine VR_geta d_Mod_writeRule_38 f_Mod_13 (by decide) ?_
    refine V_iload_n d_Mod_writeRule_41 rfl ?_
    refine VR_iald hA d_Mod_writeRule_42 rfl (by omega) (by decide) ?_
    refine V_eqi (show _ = rsel s.1 2 i bx from (if_neg h25).symm) ?_
    refine V_istore (lv' := [(5, .int (rsel s.1 2 i bx)), (4, .int A), (0, .ref o), (1, .int (nI i)), (2, .int (nI bx)), (3, .int (nI b))]) d_Mod_writeRule_43 (by decide) rfl ?_
    exact Mod_wr_45 hA hi hbx hbi hib hs hb hw0 hw1 h6 h7
  · refine V_ar_n d_Mod_writeRule_28 rfl ?_
    refine VR_geta d_Mod_writeRule_29 f_Mod_13 (by decide) ?_
    refine V_iload_n d_Mod_writeRule_32 rfl ?_
    refine VR_iald hA d_Mod_writeRule_33 rfl (by omega) (by decide) ?_
    refine V_goto 43 d_Mod_writeRule_34 (by decide) ?_
    refine V_eqi (show _ = rsel s.1 2 i bx from (if_pos (Classical.not_not.mp h25)).symm) ?_
    refine V_istore (lv' := [(5, .int (rsel s.1 2 i bx)), (4, .int A), (0, .ref o), (1, .int (nI i)), (2, .int (nI bx)), (3, .int (nI b))]) d_Mod_writeRule_43 (by decide) rfl ?_
    exact Mod_wr_45 hA hi hbx hbi hib hs hb hw0 hw1 h6 h7
set_option maxRecDepth 100000 in
set_option maxHeartbeats 4000000 in
theorem Mod_writeRule {l : Launch} {D : va_G} {ac : Nat → ClassId} {o : Nat} {ad : Nat → Nat} {s : FS} (hA : rAD o ad) {i bx b wh0 wh1 : Nat} (hi : i < 6200) (hbx : bx < 6200) (hbi : b ≤ i) (hib : i - b < 3100) (hs : okf s) (hb : s.2 + 19 ≤ 320000) (hw0 : wh0 ≤ 1) (hw1 : wh1 ≤ 1) (h6 : gB s.1 31 6 = nI wh0) (h7x : gB s.1 31 7 = nI wh1) : RCv l D ac o ad t_Mod_writeRule [.int (nI i), .int (nI bx), .int (nI b)] s.1 (wru s i bx b wh0 wh1).1 := fun M0 => by
  refine Ct_of (by decide) (Nat.le_of_ble_eq_true rfl) ?_
  refine V_ar_n d_Mod_writeRule_0 rfl ?_
  refine VR_geta d_Mod_writeRule_1 f_Mod_7 (by decide) ?_
  refine V_iload_n d_Mod_writeRule_4 rfl ?_
  refine VR_iald hA d_Mod_writeRule_5 rfl (by omega) (by decide) ?_
  refine V_iconst (v := 4) d_Mod_writeRule_6 (by decide) ?_
  refine V_icmp_ne 14 d_Mod_writeRule_7 (by decide) (fun h7 => ?_) (fun h7 => ?_)
  · refine V_iconst (v := 0) d_Mod_writeRule_14 (by decide) ?_
    refine V_eqi (show _ = acr s.1 bx from (if_neg h7).symm) ?_
    refine V_istore (lv' := [(4, .int (acr s.1 bx)), (0, .ref o), (1, .int (nI i)), (2, .int (nI bx)), (3, .int (nI b))]) d_Mod_writeRule_15 (by decide) rfl ?_
    exact Mod_wr_17 hA hi hbx hbi hib hs hb hw0 hw1 h6 h7x
  · refine V_iconst (v := 1) d_Mod_writeRule_10 (by decide) ?_
    refine V_goto 15 d_Mod_writeRule_11 (by decide) ?_
    refine V_eqi (show _ = acr s.1 bx from (if_pos (Classical.not_not.mp h7)).symm) ?_
    refine V_istore (lv' := [(4, .int (acr s.1 bx)), (0, .ref o), (1, .int (nI i)), (2, .int (nI bx)), (3, .int (nI b))]) d_Mod_writeRule_15 (by decide) rfl ?_
    exact Mod_wr_17 hA hi hbx hbi hib hs hb hw0 hw1 h6 h7x
end
section
/-! finish -/
def fin1 (s : FS) : FS := if s.2 = 0 then wpl s begl else s
def fin2 (s : FS) : FS := wpl s [(248, 1), (gF s.1 21, 4), (25400000, 4), (473628672, 4), (1000, 4), (s.1.2.1.toInt32, 4), (gF s.1 23, 4), (gF s.1 24, 2), (gF s.1 20, 2)]
def finf : Nat → FS → FS
  | 0, s => s
  | m + 1, s => finf m (if gB s.1 15 m = 0 then s else wpl s (fonl s.1 m))
def fin3 (s : FS) (p : Nat) : FS := wpl s [(249, 1), (nI p, 4), (2, 1)]
def padn : Nat → FS → FS
  | 0, s => s
  | m + 1, s => padn m (wp s 223 1)
def pdc (n : Nat) : Nat := 4 + (4 - n % 4) % 4
def finz (s : FS) (p : Nat) : FS := padn (pdc (fin3 (finf 32 (fin2 s)) p).2) (fin3 (finf 32 (fin2 s)) p)
def fin (s : FS) : FS := finz (fin1 s) (fin1 s).2
theorem finf_ok : ∀ (m : Nat) {s : FS}, okf s → okf (finf m s) ∧ s.2 ≤ (finf m s).2 ∧ (finf m s).2 ≤ s.2 + 18 * m := by
  intro m
  induction m with
  | zero => intro s h; exact ⟨h, by simp [finf], by simp [finf]⟩
  | succ m ih =>
    intro s h
    have h1 : okf (if gB s.1 15 m = 0 then s else wpl s (fonl s.1 m)) ∧ s.2 ≤ (if gB s.1 15 m = 0 then s else wpl s (fonl s.1 m)).2 ∧ (if gB s.1 15 m = 0 then s else wpl s (fonl s.1 m)).2 ≤ s.2 + 18 := by
      split
      · exact ⟨h, by omega, by omega⟩
      · refine ⟨wpl_ok h _, ?_, ?_⟩ <;> rw [wpl_2] <;> simp [fonl, tot]
    have h2 := ih h1.1
    exact ⟨h2.1, Nat.le_trans h1.2.1 h2.2.1, by have := h2.2.2; have := h1.2.2; show (finf m _).2 ≤ _; omega⟩
set_option maxRecDepth 100000 in
set_option maxHeartbeats 4000000 in
theorem Mod_finish_141 {l : Launch} {D : va_G} {ac : Nat → ClassId} {o : Nat} {ad : Nat → Nat} {M0 : MP} (hA : rAD o ad) {p L : Nat} (hL : L + 8 ≤ 320000) : ∀ (m j : Nat) (s : FS), j + m = pdc L → s.2 = L + j → okf s → V l D (tyl ac) t_Mod_finish 0 0 141 [(2, .int (nI j)), (0, .ref o), (1, .int (nI p))] [] (rM ac o ad (s.1) M0) (fun rv M' => rv = some (.int (nI (padn m s).2)) ∧ M' = rM ac o ad (sF (padn m s).1 19 1) M0) := by
  intro m
  induction m with
  | zero =>
    intro j s h1 h2 hs
    have hm8 : pdc L ≤ 7 := by unfold pdc; omega
    refine V_iload_n d_Mod_finish_141 rfl ?_
    refine V_iconst (v := nI 4) d_Mod_finish_142 (by decide) ?_
    refine V_icmp_lt 155 d_Mod_finish_143 (by decide) (fun h143 => ?_) (fun h143 => ?_)
    · exact absurd h143 (nI_nlt (by unfold pdc at h1; omega) (by unfold pdc at h1; omega))
    · refine V_ar_n d_Mod_finish_146 rfl ?_
      refine VR_geti d_Mod_finish_147 f_Mod_145 (by decide) ?_
      refine V_eqi (show _ = nI s.2 from hs) ?_
      refine V_iconst (v := nI 4) d_Mod_finish_150 (by decide) ?_
      refine V_irem d_Mod_finish_151 (by decide) ?_
      refine V_eqi (pk_rem (by omega) (by decide) (by decide)) ?_
      refine V_if_eq 169 d_Mod_finish_152 (by decide) (fun h152 => ?_) (fun h152 => ?_)
      · refine V_ar_n d_Mod_finish_169 rfl ?_
        refine V_iconst (v := 1) d_Mod_finish_170 (by decide) ?_
        refine VR_putz d_Mod_finish_171 f_Mod_204 (by decide) (okz1) ?_
        refine V_ar_n d_Mod_finish_174 rfl ?_
        refine VR_geti d_Mod_finish_175 f_Mod_145 (by decide) ?_
        refine V_eqi (show _ = nI s.2 from hs) ?_
        exact V_ireturn d_Mod_finish_178 rfl ⟨rfl, rfl⟩
      · have h0 : s.2 % 4 = 0 := by unfold pdc at h1; omega
        exact absurd (by rw [h0]; rfl) h152
  | succ m ih =>
    intro j s h1 h2 hs
    have hm8 : pdc L ≤ 7 := by unfold pdc; omega
    refine V_iload_n d_Mod_finish_141 rfl ?_
    refine V_iconst (v := nI 4) d_Mod_finish_142 (by decide) ?_
    refine V_icmp_lt 155 d_Mod_finish_143 (by decide) (fun h143 => ?_) (fun h143 => ?_)
    · refine V_ar_n d_Mod_finish_155 rfl ?_
      refine V_sipush (v := 223) d_Mod_finish_156 (by decide) ?_
      refine V_iconst (v := nI 1) d_Mod_finish_159 (by decide) ?_
      refine VR_cv2 d_Mod_finish_160 c_Mod_149 (Mod_write hA _ (hs) (by decide) (by omega)) ⟨by decide, by decide⟩ rfl (Nat.le_of_ble_eq_true rfl) ?_
      refine V_iinc (v := nI (j + 1)) (lv' := [(2, .int (nI (j + 1))), (0, .ref o), (1, .int (nI p))]) 0 d_Mod_finish_163 rfl (nI_1 j) (by decide) rfl ?_
      refine V_goto 141 d_Mod_finish_166 (by decide) ?_
      exact ih (j + 1) (wp s 223 1) (by omega) (show s.2 + 1 = L + (j + 1) by omega) (wp_ok hs _ 1)
    · have hj : 4 ≤ j := by
        rcases Nat.lt_or_ge j 4 with z | z
        · exact absurd (nI_lt z (by decide)) h143
        · exact z
      refine V_ar_n d_Mod_finish_146 rfl ?_
      refine VR_geti d_Mod_finish_147 f_Mod_145 (by decide) ?_
      refine V_eqi (show _ = nI s.2 from hs) ?_
      refine V_iconst (v := nI 4) d_Mod_finish_150 (by decide) ?_
      refine V_irem d_Mod_finish_151 (by decide) ?_
      refine V_eqi (pk_rem (by omega) (by decide) (by decide)) ?_
      refine V_if_eq 169 d_Mod_finish_152 (by decide) (fun h152 => ?_) (fun h152 => ?_)
      · have h0 : s.2 % 4 = 0 := (nI_eq (by omega) (by decide)).mp h152
        unfold pdc at h1
        omega
      · refine V_ar_n d_Mod_finish_155 rfl ?_
        refine V_sipush (v := 223) d_Mod_finish_156 (by decide) ?_
        refine V_iconst (v := nI 1) d_Mod_finish_159 (by decide) ?_
        refine VR_cv2 d_Mod_finish_160 c_Mod_149 (Mod_write hA _ (hs) (by decide) (by omega)) ⟨by decide, by decide⟩ rfl (Nat.le_of_ble_eq_true rfl) ?_
        refine V_iinc (v := nI (j + 1)) (lv' := [(2, .int (nI (j + 1))), (0, .ref o), (1, .int (nI p))]) 0 d_Mod_finish_163 rfl (nI_1 j) (by decide) rfl ?_
        refine V_goto 141 d_Mod_finish_166 (by decide) ?_
        exact ih (j + 1) (wp s 223 1) (by omega) (show s.2 + 1 = L + (j + 1) by omega) (wp_ok hs _ 1)
set_option maxRecDepth 100000 in
set_option maxHeartbeats 4000000 in
theorem Mod_finish_95 {l : Launch} {D : va_G} {ac : Nat → ClassId} {o : Nat} {ad : Nat → Nat} {M0 : MP} {Q : Option Value → MP → Prop} (hA : rAD o ad) {p : Nat} : ∀ (m : Nat) (s : FS), m ≤ 32 → okf s → s.2 + 18 * m ≤ 320000 → V l D (tyl ac) t_Mod_finish 0 0 119 [(2, .int (nI 0 - 1)), (1, .int (nI p)), (0, .ref o)] [] (rM ac o ad ((finf m s).1) M0) Q → V l D (tyl ac) t_Mod_finish 0 0 95 [(2, .int (nI m - 1)), (1, .int (nI p)), (0, .ref o)] [] (rM ac o ad (s.1) M0) Q := by
  intro m
  induction m with
  | zero =>
    intro s hm hs hb hK
    refine V_iload_n d_Mod_finish_95 rfl ?_
    refine V_if_lt 119 d_Mod_finish_96 (by decide) (fun h96 => ?_) (fun h96 => ?_)
    · exact hK
    · exact absurd (by decide) h96
  | succ m ih =>
    intro s hm hs hb hK
    rw [nI_pred m]
    refine V_iload_n d_Mod_finish_95 rfl ?_
    refine V_if_lt 119 d_Mod_finish_96 (by decide) (fun h96 => ?_) (fun h96 => ?_)
    · exact absurd h96 (nI_pos (by omega))
    · refine V_ar_n d_Mod_finish_99 rfl ?_
      refine VR_geta d_Mod_finish_100 f_Mod_47 (by decide) ?_
      refine V_iload_n d_Mod_finish_103 rfl ?_
      refine VR_zald hA d_Mod_finish_104 rfl (by omega) (by decide) ?_
      refine V_if_eq 113 d_Mod_finish_105 (by decide) (fun h105 => ?_) (fun h105 => ?_)
      · refine V_iinc (v := nI m - 1) (lv' := [(2, .int (nI m - 1)), (1, .int (nI p)), (0, .ref o)]) 0 d_Mod_finish_113 rfl (sub_ad _ (by decide)) (by decide) rfl ?_
        refine V_goto 95 d_Mod_finish_116 (by decide) ?_
        exact ih s (by omega) hs (by omega) (by rw [finf, if_pos h105] at hK; exact hK)
      · refine V_ar_n d_Mod_finish_108 rfl ?_
        refine V_iload_n d_Mod_finish_109 rfl ?_
        refine VR_cv1 d_Mod_finish_110 c_Mod_179 (Mod_writeFont hA hs (by omega) (by omega)) ⟨by decide, by decide⟩ rfl (Nat.le_of_ble_eq_true rfl) ?_
        refine V_iinc (v := nI m - 1) (lv' := [(2, .int (nI m - 1)), (1, .int (nI p)), (0, .ref o)]) 0 d_Mod_finish_113 rfl (sub_ad _ (by decide)) (by decide) rfl ?_
        refine V_goto 95 d_Mod_finish_116 (by decide) ?_
        rw [← wpl_wl]
        exact ih (wpl s (fonl s.1 m)) (by omega) (wpl_ok hs _) (by rw [wpl_2]; simp only [fonl, tot, List.map, List.sum_cons, List.sum_nil]; omega) (by rw [finf, if_neg h105] at hK; exact hK)
set_option maxRecDepth 100000 in
set_option maxHeartbeats 4000000 in
theorem Mod_finish_119 {l : Launch} {D : va_G} {ac : Nat → ClassId} {o : Nat} {ad : Nat → Nat} {s : FS} {M0 : MP} (hA : rAD o ad) {p : Nat} (hs : okf s) (hb : s.2 + 20 ≤ 320000) : V l D (tyl ac) t_Mod_finish 0 0 119 [(2, .int (nI 0 - 1)), (1, .int (nI p)), (0, .ref o)] [] (rM ac o ad (s.1) M0) (fun rv M' => rv = some (.int (nI (padn (pdc (fin3 s p).2) (fin3 s p)).2)) ∧ M' = rM ac o ad (sF (padn (pdc (fin3 s p).2) (fin3 s p)).1 19 1) M0) := by
  refine V_ar_n d_Mod_finish_119 rfl ?_
  refine V_sipush (v := 249) d_Mod_finish_120 (by decide) ?_
  refine V_iconst (v := nI 1) d_Mod_finish_123 (by decide) ?_
  refine VR_cv2 d_Mod_finish_124 c_Mod_149 (Mod_write hA _ (hs) (by decide) (by omega)) ⟨by decide, by decide⟩ rfl (Nat.le_of_ble_eq_true rfl) ?_
  refine V_ar_n d_Mod_finish_127 rfl ?_
  refine V_iload_n d_Mod_finish_128 rfl ?_
  refine V_iconst (v := nI 4) d_Mod_finish_129 (by decide) ?_
  refine VR_cv2 d_Mod_finish_130 c_Mod_149 (Mod_write hA _ (wrt_len 1 hs) (by decide) (by omega)) ⟨by decide, by decide⟩ rfl (Nat.le_of_ble_eq_true rfl) ?_
  refine V_ar_n d_Mod_finish_133 rfl ?_
  refine V_iconst (v := 2) d_Mod_finish_134 (by decide) ?_
  refine V_iconst (v := nI 1) d_Mod_finish_135 (by decide) ?_
  refine VR_cv2 d_Mod_finish_136 c_Mod_149 (Mod_write hA _ (wrt_len 4 (wrt_len 1 hs)) (by decide) (by omega)) ⟨by decide, by decide⟩ rfl (Nat.le_of_ble_eq_true rfl) ?_
  refine V_iconst (v := nI 0) d_Mod_finish_139 (by decide) ?_
  refine V_istore_n (lv' := [(2, .int (nI 0)), (1, .int (nI p)), (0, .ref o)]) d_Mod_finish_140 (by decide) rfl ?_
  exact V_lv [0, 2, 1] rfl (Mod_finish_141 hA (show (fin3 s p).2 + 8 ≤ 320000 from by show s.2 + 1 + 4 + 1 + 8 ≤ 320000; omega) (pdc (fin3 s p).2) 0 (fin3 s p) (by omega) rfl (wpl_ok hs _))
set_option maxRecDepth 100000 in
set_option maxHeartbeats 4000000 in
theorem Mod_finish_29 {l : Launch} {D : va_G} {ac : Nat → ClassId} {o : Nat} {ad : Nat → Nat} {s : FS} {M0 : MP} (hA : rAD o ad) (hs : okf s) (hb : s.2 ≤ 310000) : V l D (tyl ac) t_Mod_finish 0 0 29 [(0, .ref o)] [] (rM ac o ad (s.1) M0) (fun rv M' => rv = some (.int (nI (finz s s.2).2)) ∧ M' = rM ac o ad (sF (finz s s.2).1 19 1) M0) := by
  refine V_ar_n d_Mod_finish_29 rfl ?_
  refine VR_geti d_Mod_finish_30 f_Mod_145 (by decide) ?_
  refine V_eqi (show _ = nI s.2 from hs) ?_
  refine V_istore_n (lv' := [(1, .int (nI s.2)), (0, .ref o)]) d_Mod_finish_33 (by decide) rfl ?_
  refine V_ar_n d_Mod_finish_34 rfl ?_
  refine V_sipush (v := 248) d_Mod_finish_35 (by decide) ?_
  refine V_iconst (v := nI 1) d_Mod_finish_38 (by decide) ?_
  refine VR_cv2 d_Mod_finish_39 c_Mod_149 (Mod_write hA _ (hs) (by decide) (by omega)) ⟨by decide, by decide⟩ rfl (Nat.le_of_ble_eq_true rfl) ?_
  refine V_ar_n d_Mod_finish_42 rfl ?_
  refine V_ar_n d_Mod_finish_43 rfl ?_
  refine VR_geti d_Mod_finish_44 f_Mod_58 (by decide) ?_
  refine V_eqi (show _ = gF s.1 21 from by simp only [wl, nums, wrt_F (k := 21) (by decide)]) ?_
  refine V_iconst (v := nI 4) d_Mod_finish_47 (by decide) ?_
  refine VR_cv2 d_Mod_finish_48 c_Mod_149 (Mod_write hA _ (wrt_len 1 hs) (by decide) (by omega)) ⟨by decide, by decide⟩ rfl (Nat.le_of_ble_eq_true rfl) ?_
  refine V_ar_n d_Mod_finish_51 rfl ?_
  refine VR_cv0 d_Mod_finish_52 c_Mod_153 (Mod_writeNumbers hA (wrt_len 4 (wrt_len 1 hs)) (by omega)) ⟨by decide, by decide⟩ rfl (Nat.le_of_ble_eq_true rfl) ?_
  refine V_ar_n d_Mod_finish_55 rfl ?_
  refine V_ar_n d_Mod_finish_56 rfl ?_
  refine VR_getT d_Mod_finish_57 f_Mod_220 ?_
  refine V_eql (show _ = s.1.2.1 from by simp only [wl, nums, wrt_T]) ?_
  refine V_l2i d_Mod_finish_60 ?_
  refine V_iconst (v := nI 4) d_Mod_finish_61 (by decide) ?_
  refine VR_cv2 d_Mod_finish_62 c_Mod_149 (Mod_write hA _ (wrt_len 4 (wrt_len 4 (wrt_len 4 (wrt_len 4 (wrt_len 1 hs))))) (by decide) (by omega)) ⟨by decide, by decide⟩ rfl (Nat.le_of_ble_eq_true rfl) ?_
  refine V_ar_n d_Mod_finish_65 rfl ?_
  refine V_ar_n d_Mod_finish_66 rfl ?_
  refine VR_geti d_Mod_finish_67 f_Mod_224 (by decide) ?_
  refine V_eqi (show _ = gF s.1 23 from by simp only [wl, nums, wrt_F (k := 23) (by decide)]) ?_
  refine V_iconst (v := nI 4) d_Mod_finish_70 (by decide) ?_
  refine VR_cv2 d_Mod_finish_71 c_Mod_149 (Mod_write hA _ (wrt_len 4 (wrt_len 4 (wrt_len 4 (wrt_len 4 (wrt_len 4 (wrt_len 1 hs)))))) (by decide) (by omega)) ⟨by decide, by decide⟩ rfl (Nat.le_of_ble_eq_true rfl) ?_
  refine V_ar_n d_Mod_finish_74 rfl ?_
  refine V_ar_n d_Mod_finish_75 rfl ?_
  refine VR_geti d_Mod_finish_76 f_Mod_191 (by decide) ?_
  refine V_eqi (show _ = gF s.1 24 from by simp only [wl, nums, wrt_F (k := 24) (by decide)]) ?_
  refine V_iconst (v := nI 2) d_Mod_finish_79 (by decide) ?_
  refine VR_cv2 d_Mod_finish_80 c_Mod_149 (Mod_write hA _ (wrt_len 4 (wrt_len 4 (wrt_len 4 (wrt_len 4 (wrt_len 4 (wrt_len 4 (wrt_len 1 hs))))))) (by decide) (by omega)) ⟨by decide, by decide⟩ rfl (Nat.le_of_ble_eq_true rfl) ?_
  refine V_ar_n d_Mod_finish_83 rfl ?_
  refine V_ar_n d_Mod_finish_84 rfl ?_
  refine VR_geti d_Mod_finish_85 f_Mod_214 (by decide) ?_
  refine V_eqi (show _ = gF s.1 20 from by simp only [wl, nums, wrt_F (k := 20) (by decide)]) ?_
  refine V_iconst (v := nI 2) d_Mod_finish_88 (by decide) ?_
  refine VR_cv2 d_Mod_finish_89 c_Mod_149 (Mod_write hA _ (wrt_len 2 (wrt_len 4 (wrt_len 4 (wrt_len 4 (wrt_len 4 (wrt_len 4 (wrt_len 4 (wrt_len 1 hs)))))))) (by decide) (by omega)) ⟨by decide, by decide⟩ rfl (Nat.le_of_ble_eq_true rfl) ?_
  refine V_bipush (v := nI 32 - 1) d_Mod_finish_92 (by rfl) ?_
  refine V_istore_n (lv' := [(2, .int (nI 32 - 1)), (1, .int (nI s.2)), (0, .ref o)]) d_Mod_finish_94 (by decide) rfl ?_
  have hf := finf_ok 32 (wpl_ok hs [(248, 1), (gF s.1 21, 4), (25400000, 4), (473628672, 4), (1000, 4), (s.1.2.1.toInt32, 4), (gF s.1 23, 4), (gF s.1 24, 2), (gF s.1 20, 2)])
  have e2 : (fin2 s).2 = s.2 + 29 := by unfold fin2; rw [wpl_2]; simp [tot]
  refine Mod_finish_95 hA 32 (fin2 s) (by decide) (wpl_ok hs _) (by omega) ?_
  exact Mod_finish_119 hA hf.1 (by have h9 := hf.2.2; have h8 : (finf 32 (fin2 s)).2 ≤ (fin2 s).2 + 18 * 32 := h9; show (finf 32 (fin2 s)).2 + 20 ≤ 320000; omega)
set_option maxRecDepth 100000 in
set_option maxHeartbeats 4000000 in
theorem Mod_finish {l : Launch} {D : va_G} {ac : Nat → ClassId} {o : Nat} {ad : Nat → Nat} {r : RS} (hA : rAD o ad) {n : Nat} (hn : gF r 18 = nI n) (hb : n ≤ 300000) : RCi l D ac o ad t_Mod_finish [] r (if gF r 19 = 0 then nI (fin (sF r 0 0, n)).2 else 0) (if gF r 19 = 0 then sF (fin (sF r 0 0, n)).1 19 1 else sF r 0 1) := fun M0 => by
  refine Ct_of (by decide) (Nat.le_of_ble_eq_true rfl) ?_
  refine V_ar_n d_Mod_finish_0 rfl ?_
  refine V_ar_n d_Mod_finish_1 rfl ?_
  refine VR_geti d_Mod_finish_2 f_Mod_204 (by decide) ?_
  refine V_if_eq 12 d_Mod_finish_5 (by decide) (fun h5 => ?_) (fun h5 => ?_)
  · refine V_iconst (v := 0) d_Mod_finish_12 (by decide) ?_
    refine VR_puti d_Mod_finish_13 f_Mod_81 (by decide) ?_
    refine V_ar_n d_Mod_finish_16 rfl ?_
    refine VR_geti d_Mod_finish_17 f_Mod_204 (by decide) ?_
    refine V_if_eq 25 d_Mod_finish_20 (by decide) (fun h20 => ?_) (fun h20 => ?_)
    · refine V_ar_n d_Mod_finish_25 rfl ?_
      refine VR_cv0 d_Mod_finish_26 c_Mod_211 (Mod_writeBeginning hA hn (by omega)) ⟨by decide, by decide⟩ rfl (Nat.le_of_ble_eq_true rfl) ?_
      have e1 : (fin1 (sF r 0 0, n)).1 = if n = 0 then wl (sF r 0 0) 0 begl else sF r 0 0 := by
        unfold fin1
        by_cases h0 : n = 0
        · subst h0; rw [if_pos rfl, if_pos rfl]; exact wpl_wl _ _
        · rw [if_neg h0, if_neg h0]
      have o1 : okf (fin1 (sF r 0 0, n)) ∧ (fin1 (sF r 0 0, n)).2 ≤ n + 15 := by
        unfold fin1
        split
        · exact ⟨wpl_ok hn _, by rw [wpl_2]; simp [begl, tot]⟩
        · exact ⟨hn, by simp⟩
      rw [← e1, if_pos h5, if_pos h5]
      exact Mod_finish_29 hA o1.1 (by omega)
    · exact absurd h5 h20
  · refine V_iconst (v := 1) d_Mod_finish_8 (by decide) ?_
    refine V_goto 13 d_Mod_finish_9 (by decide) ?_
    refine VR_puti d_Mod_finish_13 f_Mod_81 (by decide) ?_
    refine V_ar_n d_Mod_finish_16 rfl ?_
    refine VR_geti d_Mod_finish_17 f_Mod_204 (by decide) ?_
    refine V_if_eq 25 d_Mod_finish_20 (by decide) (fun h20 => ?_) (fun h20 => ?_)
    · exact absurd h20 h5
    · refine V_iconst (v := 0) d_Mod_finish_23 (by decide) ?_
      exact V_ireturn d_Mod_finish_24 rfl ⟨by rw [if_neg h5], by rw [if_neg h5]⟩
end
section
/-! close -/
def cls1 (r : RS) (i : Nat) : Int64 := if isb r i = 0 then 0 else (gB r 5 i).toInt64
def clsz (r : RS) (i : Nat) : Int32 := if gB r 1 i = 3 then 0 else 1
def clh (r : RS) (i : Nat) (z : Int32) (h : Int64) : Int64 := h + (if z = 0 then (gB r 2 i).toInt64 else (gB r 3 i).toInt64 + (gB r 4 i).toInt64)
/-- the greater of m and field f's number with s, where it counts -/
def clm (r : RS) (f i : Nat) (z : Int32) (x m : Int64) : Int64 := if ¬ z = 0 ∧ ¬ gB r f i = -2147483648 ∧ m < x then x else m
def cld (r : RS) (i : Nat) (z : Int32) : Int64 := if z = 0 then 0 else (gB r 4 i).toInt64
abbrev T3 : Type := Int64 × Int64 × Int64
def cst (r : RS) (v : Int32) (i : Nat) (t : T3) : T3 := if v = 0 then (t.1 + (gB r 2 i).toInt64, clm r 3 i (clsz r i) ((gB r 3 i).toInt64 - cls1 r i) t.2.1, clm r 4 i (clsz r i) ((gB r 4 i).toInt64 + cls1 r i) t.2.2) else (clm r 2 i (clsz r i) ((gB r 2 i).toInt64 + cls1 r i) t.1, clh r i (clsz r i) t.2.1, cld r i (clsz r i))
def clo (r : RS) (v : Int32) (sp : Nat → Nat) (e : Nat) : Nat → Nat → T3 → T3
  | 0, _, t => t
  | m + 1, i, t => if i < e then clo r v sp e m (i + sp i) (cst r v i t) else t
set_option maxRecDepth 100000 in
set_option maxHeartbeats 4000000 in
theorem Mod_cl_344 {l : Launch} {D : va_G} {ac : Nat → ClassId} {o : Nat} {ad : Nat → Nat} {r : RS} {M0 : MP} {Q : Option Value → MP → Prop} (hA : rAD o ad) {a i : Nat} {x v : Int32} {n : Nat} {w h d s : Int64} {z : Int32} (hi : i < 6200) (hsp : gB r 7 i = nI n) (hK : V l D (tyl ac) t_Mod_close 0 0 61 [(0, .ref o), (1, .int x), (2, .int (nI a)), (3, .int v), (4, .long w), (6, .long h), (8, .long d), (10, .int (nI (i + n)))] [] (rM ac o ad (r) M0) Q) : V l D (tyl ac) t_Mod_close 0 0 344 [(0, .ref o), (1, .int x), (2, .int (nI a)), (3, .int v), (4, .long w), (6, .long h), (8, .long d), (10, .int (nI i)), (11, .long s), (13, .int z)] [] (rM ac o ad (r) M0) Q := by
  refine V_iload d_Mod_close_344 rfl ?_
  refine V_ar_n d_Mod_close_346 rfl ?_
  refine VR_geta d_Mod_close_347 f_Mod_28 (by decide) ?_
  refine V_iload d_Mod_close_350 rfl ?_
  refine VR_iald hA d_Mod_close_352 rfl (by omega) (by decide) ?_
  refine V_iadd d_Mod_close_353 ?_
  refine V_eqi (show _ = nI (i + n) from by rw [hsp, nI_add]) ?_
  refine V_istore (lv' := [(10, .int (nI (i + n))), (0, .ref o), (1, .int x), (2, .int (nI a)), (3, .int v), (4, .long w), (6, .long h), (8, .long d), (11, .long s), (13, .int z)]) d_Mod_close_354 (by decide) rfl ?_
  refine V_goto 61 d_Mod_close_356 (by decide) ?_
  refine V_lv [1, 2, 3, 4, 5, 6, 7, 0] rfl ?_
  exact hK
set_option maxRecDepth 100000 in
set_option maxHeartbeats 4000000 in
theorem Mod_cl_292 {l : Launch} {D : va_G} {ac : Nat → ClassId} {o : Nat} {ad : Nat → Nat} {r : RS} {M0 : MP} {Q : Option Value → MP → Prop} (hA : rAD o ad) {a i : Nat} {x v : Int32} {n : Nat} {w h d s : Int64} {z : Int32} (hi : i < 6200) (hsp : gB r 7 i = nI n) (hK : V l D (tyl ac) t_Mod_close 0 0 61 [(0, .ref o), (1, .int x), (2, .int (nI a)), (3, .int v), (4, .long w), (6, .long h), (8, .long (clm r 4 i z ((gB r 4 i).toInt64 + s) d)), (10, .int (nI (i + n)))] [] (rM ac o ad (r) M0) Q) : V l D (tyl ac) t_Mod_close 0 0 292 [(0, .ref o), (1, .int x), (2, .int (nI a)), (3, .int v), (4, .long w), (6, .long h), (8, .long d), (10, .int (nI i)), (11, .long s), (13, .int z)] [] (rM ac o ad (r) M0) Q := by
  refine V_iload d_Mod_close_292 rfl ?_
  refine V_if_eq 340 d_Mod_close_294 (by decide) (fun h294 => ?_) (fun h294 => ?_)
  · refine V_lload d_Mod_close_340 rfl ?_
    refine V_eql (show _ = clm r 4 i z ((gB r 4 i).toInt64 + s) d from (if_neg (fun y => y.1 h294)).symm) ?_
    refine V_lstore (lv' := [(8, .long (clm r 4 i z ((gB r 4 i).toInt64 + s) d)), (0, .ref o), (1, .int x), (2, .int (nI a)), (3, .int v), (4, .long w), (6, .long h), (10, .int (nI i)), (11, .long s), (13, .int z)]) d_Mod_close_342 (by decide) rfl ?_
    refine V_lv [1, 2, 3, 4, 5, 6, 0, 7, 8, 9] rfl ?_
    exact Mod_cl_344 hA hi hsp hK
  · refine V_ar_n d_Mod_close_297 rfl ?_
    refine VR_geta d_Mod_close_298 f_Mod_19 (by decide) ?_
    refine V_iload d_Mod_close_301 rfl ?_
    refine VR_iald hA d_Mod_close_303 rfl (by omega) (by decide) ?_
    refine V_ldc d_Mod_close_304 k_Mod_115 ?_
    refine V_icmp_eq 340 d_Mod_close_306 (by decide) (fun h306 => ?_) (fun h306 => ?_)
    · refine V_lload d_Mod_close_340 rfl ?_
      refine V_eql (show _ = clm r 4 i z ((gB r 4 i).toInt64 + s) d from (if_neg (fun y => y.2.1 h306)).symm) ?_
      refine V_lstore (lv' := [(8, .long (clm r 4 i z ((gB r 4 i).toInt64 + s) d)), (0, .ref o), (1, .int x), (2, .int (nI a)), (3, .int v), (4, .long w), (6, .long h), (10, .int (nI i)), (11, .long s), (13, .int z)]) d_Mod_close_342 (by decide) rfl ?_
      refine V_lv [1, 2, 3, 4, 5, 6, 0, 7, 8, 9] rfl ?_
      exact Mod_cl_344 hA hi hsp hK
    · refine V_ar_n d_Mod_close_309 rfl ?_
      refine VR_geta d_Mod_close_310 f_Mod_19 (by decide) ?_
      refine V_iload d_Mod_close_313 rfl ?_
      refine VR_iald hA d_Mod_close_315 rfl (by omega) (by decide) ?_
      refine V_i2l d_Mod_close_316 ?_
      refine V_lload d_Mod_close_317 rfl ?_
      refine V_ladd d_Mod_close_319 ?_
      refine V_lload d_Mod_close_320 rfl ?_
      refine V_lcmp d_Mod_close_322 ?_
      refine V_if_le 340 d_Mod_close_323 (by decide) (fun h323 => ?_) (fun h323 => ?_)
      · refine V_lload d_Mod_close_340 rfl ?_
        refine V_eql (show _ = clm r 4 i z ((gB r 4 i).toInt64 + s) d from (if_neg (fun y => absurd ((lg_cmp_le _ _).mp h323) (Int64.not_le.mpr y.2.2))).symm) ?_
        refine V_lstore (lv' := [(8, .long (clm r 4 i z ((gB r 4 i).toInt64 + s) d)), (0, .ref o), (1, .int x), (2, .int (nI a)), (3, .int v), (4, .long w), (6, .long h), (10, .int (nI i)), (11, .long s), (13, .int z)]) d_Mod_close_342 (by decide) rfl ?_
        refine V_lv [1, 2, 3, 4, 5, 6, 0, 7, 8, 9] rfl ?_
        exact Mod_cl_344 hA hi hsp hK
      · refine V_ar_n d_Mod_close_326 rfl ?_
        refine VR_geta d_Mod_close_327 f_Mod_19 (by decide) ?_
        refine V_iload d_Mod_close_330 rfl ?_
        refine VR_iald hA d_Mod_close_332 rfl (by omega) (by decide) ?_
        refine V_i2l d_Mod_close_333 ?_
        refine V_lload d_Mod_close_334 rfl ?_
        refine V_ladd d_Mod_close_336 ?_
        refine V_goto 342 d_Mod_close_337 (by decide) ?_
        refine V_eql (show _ = clm r 4 i z ((gB r 4 i).toInt64 + s) d from (if_pos ⟨h294, h306, Int64.not_le.mp (fun y => h323 ((lg_cmp_le _ _).mpr y))⟩).symm) ?_
        refine V_lstore (lv' := [(8, .long (clm r 4 i z ((gB r 4 i).toInt64 + s) d)), (0, .ref o), (1, .int x), (2, .int (nI a)), (3, .int v), (4, .long w), (6, .long h), (10, .int (nI i)), (11, .long s), (13, .int z)]) d_Mod_close_342 (by decide) rfl ?_
        refine V_lv [1, 2, 3, 4, 5, 6, 0, 7, 8, 9] rfl ?_
        exact Mod_cl_344 hA hi hsp hK
set_option maxRecDepth 100000 in
set_option maxHeartbeats 4000000 in
theorem Mod_cl_240 {l : Launch} {D : va_G} {ac : Nat → ClassId} {o : Nat} {ad : Nat → Nat} {r : RS} {M0 : MP} {Q : Option Value → MP → Prop} (hA : rAD o ad) {a i : Nat} {x v : Int32} {n : Nat} {w h d s : Int64} {z : Int32} (hi : i < 6200) (hsp : gB r 7 i = nI n) (hK : V l D (tyl ac) t_Mod_close 0 0 61 [(0, .ref o), (1, .int x), (2, .int (nI a)), (3, .int v), (4, .long w), (6, .long (clm r 3 i z ((gB r 3 i).toInt64 - s) h)), (8, .long (clm r 4 i z ((gB r 4 i).toInt64 + s) d)), (10, .int (nI (i + n)))] [] (rM ac o ad (r) M0) Q) : V l D (tyl ac) t_Mod_close 0 0 240 [(0, .ref o), (1, .int x), (2, .int (nI a)), (3, .int v), (4, .long w), (6, .long h), (8, .long d), (10, .int (nI i)), (11, .long s), (13, .int z)] [] (rM ac o ad (r) M0) Q := by
  refine V_iload d_Mod_close_240 rfl ?_
  refine V_if_eq 288 d_Mod_close_242 (by decide) (fun h242 => ?_) (fun h242 => ?_)
  · refine V_lload d_Mod_close_288 rfl ?_
    refine V_eql (show _ = clm r 3 i z ((gB r 3 i).toInt64 - s) h from (if_neg (fun y => y.1 h242)).symm) ?_
    refine V_lstore (lv' := [(6, .long (clm r 3 i z ((gB r 3 i).toInt64 - s) h)), (0, .ref o), (1, .int x), (2, .int (nI a)), (3, .int v), (4, .long w), (8, .long d), (10, .int (nI i)), (11, .long s), (13, .int z)]) d_Mod_close_290 (by decide) rfl ?_
    refine V_lv [1, 2, 3, 4, 5, 0, 6, 7, 8, 9] rfl ?_
    exact Mod_cl_292 hA hi hsp hK
  · refine V_ar_n d_Mod_close_245 rfl ?_
    refine VR_geta d_Mod_close_246 f_Mod_16 (by decide) ?_
    refine V_iload d_Mod_close_249 rfl ?_
    refine VR_iald hA d_Mod_close_251 rfl (by omega) (by decide) ?_
    refine V_ldc d_Mod_close_252 k_Mod_115 ?_
    refine V_icmp_eq 288 d_Mod_close_254 (by decide) (fun h254 => ?_) (fun h254 => ?_)
    · refine V_lload d_Mod_close_288 rfl ?_
      refine V_eql (show _ = clm r 3 i z ((gB r 3 i).toInt64 - s) h from (if_neg (fun y => y.2.1 h254)).symm) ?_
      refine V_lstore (lv' := [(6, .long (clm r 3 i z ((gB r 3 i).toInt64 - s) h)), (0, .ref o), (1, .int x), (2, .int (nI a)), (3, .int v), (4, .long w), (8, .long d), (10, .int (nI i)), (11, .long s), (13, .int z)]) d_Mod_close_290 (by decide) rfl ?_
      refine V_lv [1, 2, 3, 4, 5, 0, 6, 7, 8, 9] rfl ?_
      exact Mod_cl_292 hA hi hsp hK
    · refine V_ar_n d_Mod_close_257 rfl ?_
      refine VR_geta d_Mod_close_258 f_Mod_16 (by decide) ?_
      refine V_iload d_Mod_close_261 rfl ?_
      refine VR_iald hA d_Mod_close_263 rfl (by omega) (by decide) ?_
      refine V_i2l d_Mod_close_264 ?_
      refine V_lload d_Mod_close_265 rfl ?_
      refine V_lsub d_Mod_close_267 ?_
      refine V_lload d_Mod_close_268 rfl ?_
      refine V_lcmp d_Mod_close_270 ?_
      refine V_if_le 288 d_Mod_close_271 (by decide) (fun h271 => ?_) (fun h271 => ?_)
      · refine V_lload d_Mod_close_288 rfl ?_
        refine V_eql (show _ = clm r 3 i z ((gB r 3 i).toInt64 - s) h from (if_neg (fun y => absurd ((lg_cmp_le _ _).mp h271) (Int64.not_le.mpr y.2.2))).symm) ?_
        refine V_lstore (lv' := [(6, .long (clm r 3 i z ((gB r 3 i).toInt64 - s) h)), (0, .ref o), (1, .int x), (2, .int (nI a)), (3, .int v), (4, .long w), (8, .long d), (10, .int (nI i)), (11, .long s), (13, .int z)]) d_Mod_close_290 (by decide) rfl ?_
        refine V_lv [1, 2, 3, 4, 5, 0, 6, 7, 8, 9] rfl ?_
        exact Mod_cl_292 hA hi hsp hK
      · refine V_ar_n d_Mod_close_274 rfl ?_
        refine VR_geta d_Mod_close_275 f_Mod_16 (by decide) ?_
        refine V_iload d_Mod_close_278 rfl ?_
        refine VR_iald hA d_Mod_close_280 rfl (by omega) (by decide) ?_
        refine V_i2l d_Mod_close_281 ?_
        refine V_lload d_Mod_close_282 rfl ?_
        refine V_lsub d_Mod_close_284 ?_
        refine V_goto 290 d_Mod_close_285 (by decide) ?_
        refine V_eql (show _ = clm r 3 i z ((gB r 3 i).toInt64 - s) h from (if_pos ⟨h242, h254, Int64.not_le.mp (fun y => h271 ((lg_cmp_le _ _).mpr y))⟩).symm) ?_
        refine V_lstore (lv' := [(6, .long (clm r 3 i z ((gB r 3 i).toInt64 - s) h)), (0, .ref o), (1, .int x), (2, .int (nI a)), (3, .int v), (4, .long w), (8, .long d), (10, .int (nI i)), (11, .long s), (13, .int z)]) d_Mod_close_290 (by decide) rfl ?_
        refine V_lv [1, 2, 3, 4, 5, 0, 6, 7, 8, 9] rfl ?_
        exact Mod_cl_292 hA hi hsp hK
set_option maxRecDepth 100000 in
set_option maxHeartbeats 4000000 in
theorem Mod_cl_205 {l : Launch} {D : va_G} {ac : Nat → ClassId} {o : Nat} {ad : Nat → Nat} {r : RS} {M0 : MP} {Q : Option Value → MP → Prop} (hA : rAD o ad) {a i : Nat} {x v : Int32} {n : Nat} {w h d s : Int64} {z : Int32} (hi : i < 6200) (hsp : gB r 7 i = nI n) (hK : V l D (tyl ac) t_Mod_close 0 0 61 [(0, .ref o), (1, .int x), (2, .int (nI a)), (3, .int v), (4, .long w), (6, .long h), (8, .long (cld r i z)), (10, .int (nI (i + n)))] [] (rM ac o ad (r) M0) Q) : V l D (tyl ac) t_Mod_close 0 0 205 [(0, .ref o), (1, .int x), (2, .int (nI a)), (3, .int v), (4, .long w), (6, .long h), (8, .long d), (10, .int (nI i)), (11, .long s), (13, .int z)] [] (rM ac o ad (r) M0) Q := by
  refine V_iload d_Mod_close_205 rfl ?_
  refine V_if_eq 221 d_Mod_close_207 (by decide) (fun h207 => ?_) (fun h207 => ?_)
  · refine V_lconst (v := 0) d_Mod_close_221 (by decide) ?_
    refine V_eql (show _ = cld r i z from (if_pos h207).symm) ?_
    refine V_lstore (lv' := [(8, .long (cld r i z)), (0, .ref o), (1, .int x), (2, .int (nI a)), (3, .int v), (4, .long w), (6, .long h), (10, .int (nI i)), (11, .long s), (13, .int z)]) d_Mod_close_222 (by decide) rfl ?_
    refine V_goto 344 d_Mod_close_224 (by decide) ?_
    refine V_lv [1, 2, 3, 4, 5, 6, 0, 7, 8, 9] rfl ?_
    exact Mod_cl_344 hA hi hsp hK
  · refine V_ar_n d_Mod_close_210 rfl ?_
    refine VR_geta d_Mod_close_211 f_Mod_19 (by decide) ?_
    refine V_iload d_Mod_close_214 rfl ?_
    refine VR_iald hA d_Mod_close_216 rfl (by omega) (by decide) ?_
    refine V_i2l d_Mod_close_217 ?_
    refine V_goto 222 d_Mod_close_218 (by decide) ?_
    refine V_eql (show _ = cld r i z from (if_neg h207).symm) ?_
    refine V_lstore (lv' := [(8, .long (cld r i z)), (0, .ref o), (1, .int x), (2, .int (nI a)), (3, .int v), (4, .long w), (6, .long h), (10, .int (nI i)), (11, .long s), (13, .int z)]) d_Mod_close_222 (by decide) rfl ?_
    refine V_goto 344 d_Mod_close_224 (by decide) ?_
    refine V_lv [1, 2, 3, 4, 5, 6, 0, 7, 8, 9] rfl ?_
    exact Mod_cl_344 hA hi hsp hK
set_option maxRecDepth 100000 in
set_option maxHeartbeats 4000000 in
theorem Mod_cl_153 {l : Launch} {D : va_G} {ac : Nat → ClassId} {o : Nat} {ad : Nat → Nat} {r : RS} {M0 : MP} {Q : Option Value → MP → Prop} (hA : rAD o ad) {a i : Nat} {x v : Int32} {n : Nat} {w h d s : Int64} {z : Int32} (hi : i < 6200) (hsp : gB r 7 i = nI n) (hK : V l D (tyl ac) t_Mod_close 0 0 61 [(0, .ref o), (1, .int x), (2, .int (nI a)), (3, .int v), (4, .long (clm r 2 i z ((gB r 2 i).toInt64 + s) w)), (6, .long h), (8, .long (cld r i z)), (10, .int (nI (i + n)))] [] (rM ac o ad (r) M0) Q) : V l D (tyl ac) t_Mod_close 0 0 153 [(0, .ref o), (1, .int x), (2, .int (nI a)), (3, .int v), (4, .long w), (6, .long h), (8, .long d), (10, .int (nI i)), (11, .long s), (13, .int z)] [] (rM ac o ad (r) M0) Q := by
  refine V_iload d_Mod_close_153 rfl ?_
  refine V_if_eq 201 d_Mod_close_155 (by decide) (fun h155 => ?_) (fun h155 => ?_)
  · refine V_lload d_Mod_close_201 rfl ?_
    refine V_eql (show _ = clm r 2 i z ((gB r 2 i).toInt64 + s) w from (if_neg (fun y => y.1 h155)).symm) ?_
    refine V_lstore (lv' := [(4, .long (clm r 2 i z ((gB r 2 i).toInt64 + s) w)), (0, .ref o), (1, .int x), (2, .int (nI a)), (3, .int v), (6, .long h), (8, .long d), (10, .int (nI i)), (11, .long s), (13, .int z)]) d_Mod_close_203 (by decide) rfl ?_
    refine V_lv [1, 2, 3, 4, 0, 5, 6, 7, 8, 9] rfl ?_
    exact Mod_cl_205 hA hi hsp hK
  · refine V_ar_n d_Mod_close_158 rfl ?_
    refine VR_geta d_Mod_close_159 f_Mod_13 (by decide) ?_
    refine V_iload d_Mod_close_162 rfl ?_
    refine VR_iald hA d_Mod_close_164 rfl (by omega) (by decide) ?_
    refine V_ldc d_Mod_close_165 k_Mod_115 ?_
    refine V_icmp_eq 201 d_Mod_close_167 (by decide) (fun h167 => ?_) (fun h167 => ?_)
    · refine V_lload d_Mod_close_201 rfl ?_
      refine V_eql (show _ = clm r 2 i z ((gB r 2 i).toInt64 + s) w from (if_neg (fun y => y.2.1 h167)).symm) ?_
      refine V_lstore (lv' := [(4, .long (clm r 2 i z ((gB r 2 i).toInt64 + s) w)), (0, .ref o), (1, .int x), (2, .int (nI a)), (3, .int v), (6, .long h), (8, .long d), (10, .int (nI i)), (11, .long s), (13, .int z)]) d_Mod_close_203 (by decide) rfl ?_
      refine V_lv [1, 2, 3, 4, 0, 5, 6, 7, 8, 9] rfl ?_
      exact Mod_cl_205 hA hi hsp hK
    · refine V_ar_n d_Mod_close_170 rfl ?_
      refine VR_geta d_Mod_close_171 f_Mod_13 (by decide) ?_
      refine V_iload d_Mod_close_174 rfl ?_
      refine VR_iald hA d_Mod_close_176 rfl (by omega) (by decide) ?_
      refine V_i2l d_Mod_close_177 ?_
      refine V_lload d_Mod_close_178 rfl ?_
      refine V_ladd d_Mod_close_180 ?_
      refine V_lload d_Mod_close_181 rfl ?_
      refine V_lcmp d_Mod_close_183 ?_
      refine V_if_le 201 d_Mod_close_184 (by decide) (fun h184 => ?_) (fun h184 => ?_)
      · refine V_lload d_Mod_close_201 rfl ?_
        refine V_eql (show _ = clm r 2 i z ((gB r 2 i).toInt64 + s) w from (if_neg (fun y => absurd ((lg_cmp_le _ _).mp h184) (Int64.not_le.mpr y.2.2))).symm) ?_
        refine V_lstore (lv' := [(4, .long (clm r 2 i z ((gB r 2 i).toInt64 + s) w)), (0, .ref o), (1, .int x), (2, .int (nI a)), (3, .int v), (6, .long h), (8, .long d), (10, .int (nI i)), (11, .long s), (13, .int z)]) d_Mod_close_203 (by decide) rfl ?_
        refine V_lv [1, 2, 3, 4, 0, 5, 6, 7, 8, 9] rfl ?_
        exact Mod_cl_205 hA hi hsp hK
      · refine V_ar_n d_Mod_close_187 rfl ?_
        refine VR_geta d_Mod_close_188 f_Mod_13 (by decide) ?_
        refine V_iload d_Mod_close_191 rfl ?_
        refine VR_iald hA d_Mod_close_193 rfl (by omega) (by decide) ?_
        refine V_i2l d_Mod_close_194 ?_
        refine V_lload d_Mod_close_195 rfl ?_
        refine V_ladd d_Mod_close_197 ?_
        refine V_goto 203 d_Mod_close_198 (by decide) ?_
        refine V_eql (show _ = clm r 2 i z ((gB r 2 i).toInt64 + s) w from (if_pos ⟨h155, h167, Int64.not_le.mp (fun y => h184 ((lg_cmp_le _ _).mpr y))⟩).symm) ?_
        refine V_lstore (lv' := [(4, .long (clm r 2 i z ((gB r 2 i).toInt64 + s) w)), (0, .ref o), (1, .int x), (2, .int (nI a)), (3, .int v), (6, .long h), (8, .long d), (10, .int (nI i)), (11, .long s), (13, .int z)]) d_Mod_close_203 (by decide) rfl ?_
        refine V_lv [1, 2, 3, 4, 0, 5, 6, 7, 8, 9] rfl ?_
        exact Mod_cl_205 hA hi hsp hK
set_option maxRecDepth 100000 in
set_option maxHeartbeats 4000000 in
theorem Mod_cl_111 {l : Launch} {D : va_G} {ac : Nat → ClassId} {o : Nat} {ad : Nat → Nat} {r : RS} {M0 : MP} {Q : Option Value → MP → Prop} (hA : rAD o ad) {a i : Nat} {x v : Int32} {n : Nat} {w h d s : Int64} {z : Int32} (hi : i < 6200) (hsp : gB r 7 i = nI n) (hK : V l D (tyl ac) t_Mod_close 0 0 61 [(0, .ref o), (1, .int x), (2, .int (nI a)), (3, .int v), (4, .long (if v = 0 then (w + (gB r 2 i).toInt64, clm r 3 i z ((gB r 3 i).toInt64 - s) h, clm r 4 i z ((gB r 4 i).toInt64 + s) d) else (clm r 2 i z ((gB r 2 i).toInt64 + s) w, clh r i z h, cld r i z) : T3).1), (6, .long (if v = 0 then (w + (gB r 2 i).toInt64, clm r 3 i z ((gB r 3 i).toInt64 - s) h, clm r 4 i z ((gB r 4 i).toInt64 + s) d) else (clm r 2 i z ((gB r 2 i).toInt64 + s) w, clh r i z h, cld r i z) : T3).2.1), (8, .long (if v = 0 then (w + (gB r 2 i).toInt64, clm r 3 i z ((gB r 3 i).toInt64 - s) h, clm r 4 i z ((gB r 4 i).toInt64 + s) d) else (clm r 2 i z ((gB r 2 i).toInt64 + s) w, clh r i z h, cld r i z) : T3).2.2), (10, .int (nI (i + n)))] [] (rM ac o ad (r) M0) Q) : V l D (tyl ac) t_Mod_close 0 0 111 [(0, .ref o), (1, .int x), (2, .int (nI a)), (3, .int v), (4, .long w), (6, .long h), (8, .long d), (10, .int (nI i)), (11, .long s), (13, .int z)] [] (rM ac o ad (r) M0) Q := by
  refine V_iload_n d_Mod_close_111 rfl ?_
  refine V_if_eq 227 d_Mod_close_112 (by decide) (fun h112 => ?_) (fun h112 => ?_)
  · refine V_lload d_Mod_close_227 rfl ?_
    refine V_ar_n d_Mod_close_229 rfl ?_
    refine VR_geta d_Mod_close_230 f_Mod_13 (by decide) ?_
    refine V_iload d_Mod_close_233 rfl ?_
    refine VR_iald hA d_Mod_close_235 rfl (by omega) (by decide) ?_
    refine V_i2l d_Mod_close_236 ?_
    refine V_ladd d_Mod_close_237 ?_
    refine V_lstore (lv' := [(4, .long (w + (gB r 2 i).toInt64)), (0, .ref o), (1, .int x), (2, .int (nI a)), (3, .int v), (6, .long h), (8, .long d), (10, .int (nI i)), (11, .long s), (13, .int z)]) d_Mod_close_238 (by decide) rfl ?_
    refine V_lv [1, 2, 3, 4, 0, 5, 6, 7, 8, 9] rfl ?_
    rw [if_pos h112] at hK
    exact Mod_cl_240 hA hi hsp hK
  · rw [if_neg h112] at hK
    refine V_lload d_Mod_close_115 rfl ?_
    refine V_iload d_Mod_close_117 rfl ?_
    refine V_if_eq 142 d_Mod_close_119 (by decide) (fun h119 => ?_) (fun h119 => ?_)
    · refine V_ar_n d_Mod_close_142 rfl ?_
      refine VR_geta d_Mod_close_143 f_Mod_13 (by decide) ?_
      refine V_iload d_Mod_close_146 rfl ?_
      refine VR_iald hA d_Mod_close_148 rfl (by omega) (by decide) ?_
      refine V_i2l d_Mod_close_149 ?_
      refine V_ladd d_Mod_close_150 ?_
      refine V_eql (show _ = clh r i z h from by rw [clh, if_pos h119]) ?_
      refine V_lstore (lv' := [(6, .long (clh r i z h)), (0, .ref o), (1, .int x), (2, .int (nI a)), (3, .int v), (4, .long w), (8, .long d), (10, .int (nI i)), (11, .long s), (13, .int z)]) d_Mod_close_151 (by decide) rfl ?_
      refine V_lv [1, 2, 3, 4, 5, 0, 6, 7, 8, 9] rfl ?_
      exact Mod_cl_153 hA hi hsp hK
    · refine V_ar_n d_Mod_close_122 rfl ?_
      refine VR_geta d_Mod_close_123 f_Mod_16 (by decide) ?_
      refine V_iload d_Mod_close_126 rfl ?_
      refine VR_iald hA d_Mod_close_128 rfl (by omega) (by decide) ?_
      refine V_i2l d_Mod_close_129 ?_
      refine V_ar_n d_Mod_close_130 rfl ?_
      refine VR_geta d_Mod_close_131 f_Mod_19 (by decide) ?_
      refine V_iload d_Mod_close_134 rfl ?_
      refine VR_iald hA d_Mod_close_136 rfl (by omega) (by decide) ?_
      refine V_i2l d_Mod_close_137 ?_
      refine V_ladd d_Mod_close_138 ?_
      refine V_goto 150 d_Mod_close_139 (by decide) ?_
      refine V_ladd d_Mod_close_150 ?_
      refine V_eql (show _ = clh r i z h from by rw [clh, if_neg h119]) ?_
      refine V_lstore (lv' := [(6, .long (clh r i z h)), (0, .ref o), (1, .int x), (2, .int (nI a)), (3, .int v), (4, .long w), (8, .long d), (10, .int (nI i)), (11, .long s), (13, .int z)]) d_Mod_close_151 (by decide) rfl ?_
      refine V_lv [1, 2, 3, 4, 5, 0, 6, 7, 8, 9] rfl ?_
      exact Mod_cl_153 hA hi hsp hK
set_option maxRecDepth 100000 in
set_option maxHeartbeats 4000000 in
theorem Mod_cl_70 {l : Launch} {D : va_G} {ac : Nat → ClassId} {o : Nat} {ad : Nat → Nat} {r : RS} {M0 : MP} {Q : Option Value → MP → Prop} (hA : rAD o ad) {a i : Nat} {x v : Int32} {n : Nat} {w h d : Int64} (hi : i < 6200) (hsp : gB r 7 i = nI n) (hK : V l D (tyl ac) t_Mod_close 0 0 61 [(0, .ref o), (1, .int x), (2, .int (nI a)), (3, .int v), (4, .long (cst r v i (w, h, d)).1), (6, .long (cst r v i (w, h, d)).2.1), (8, .long (cst r v i (w, h, d)).2.2), (10, .int (nI (i + n)))] [] (rM ac o ad (r) M0) Q) : V l D (tyl ac) t_Mod_close 0 0 70 [(0, .ref o), (1, .int x), (2, .int (nI a)), (3, .int v), (4, .long w), (6, .long h), (8, .long d), (10, .int (nI i))] [] (rM ac o ad (r) M0) Q := by
  refine V_ar_n d_Mod_close_70 rfl ?_
  refine V_iload d_Mod_close_71 rfl ?_
  refine VR_ci1 d_Mod_close_73 c_Mod_116 (Mod_isBox hA hi) ⟨by decide, by decide⟩ rfl (Nat.le_of_ble_eq_true rfl) ?_
  refine V_if_eq 90 d_Mod_close_76 (by decide) (fun h76 => ?_) (fun h76 => ?_)
  · refine V_lconst (v := 0) d_Mod_close_90 (by decide) ?_
    refine V_eql (show _ = cls1 r i from (if_pos h76).symm) ?_
    refine V_lstore (lv' := [(11, .long (cls1 r i)), (0, .ref o), (1, .int x), (2, .int (nI a)), (3, .int v), (4, .long w), (6, .long h), (8, .long d), (10, .int (nI i))]) d_Mod_close_91 (by decide) rfl ?_
    refine V_ar_n d_Mod_close_93 rfl ?_
    refine VR_geta d_Mod_close_94 f_Mod_7 (by decide) ?_
    refine V_iload d_Mod_close_97 rfl ?_
    refine VR_iald hA d_Mod_close_99 rfl (by omega) (by decide) ?_
    refine V_iconst (v := 3) d_Mod_close_100 (by decide) ?_
    refine V_icmp_eq 108 d_Mod_close_101 (by decide) (fun h101 => ?_) (fun h101 => ?_)
    · refine V_iconst (v := 0) d_Mod_close_108 (by decide) ?_
      refine V_eqi (show _ = clsz r i from (if_pos h101).symm) ?_
      refine V_istore (lv' := [(13, .int (clsz r i)), (11, .long (cls1 r i)), (0, .ref o), (1, .int x), (2, .int (nI a)), (3, .int v), (4, .long w), (6, .long h), (8, .long d), (10, .int (nI i))]) d_Mod_close_109 (by decide) rfl ?_
      refine V_lv [2, 3, 4, 5, 6, 7, 8, 9, 1, 0] rfl ?_
      exact Mod_cl_111 hA hi hsp hK
    · refine V_iconst (v := 1) d_Mod_close_104 (by decide) ?_
      refine V_goto 109 d_Mod_close_105 (by decide) ?_
      refine V_eqi (show _ = clsz r i from (if_neg h101).symm) ?_
      refine V_istore (lv' := [(13, .int (clsz r i)), (11, .long (cls1 r i)), (0, .ref o), (1, .int x), (2, .int (nI a)), (3, .int v), (4, .long w), (6, .long h), (8, .long d), (10, .int (nI i))]) d_Mod_close_109 (by decide) rfl ?_
      refine V_lv [2, 3, 4, 5, 6, 7, 8, 9, 1, 0] rfl ?_
      exact Mod_cl_111 hA hi hsp hK
  · refine V_ar_n d_Mod_close_79 rfl ?_
    refine VR_geta d_Mod_close_80 f_Mod_22 (by decide) ?_
    refine V_iload d_Mod_close_83 rfl ?_
    refine VR_iald hA d_Mod_close_85 rfl (by omega) (by decide) ?_
    refine V_i2l d_Mod_close_86 ?_
    refine V_goto 91 d_Mod_close_87 (by decide) ?_
    refine V_eql (show _ = cls1 r i from (if_neg h76).symm) ?_
    refine V_lstore (lv' := [(11, .long (cls1 r i)), (0, .ref o), (1, .int x), (2, .int (nI a)), (3, .int v), (4, .long w), (6, .long h), (8, .long d), (10, .int (nI i))]) d_Mod_close_91 (by decide) rfl ?_
    refine V_ar_n d_Mod_close_93 rfl ?_
    refine VR_geta d_Mod_close_94 f_Mod_7 (by decide) ?_
    refine V_iload d_Mod_close_97 rfl ?_
    refine VR_iald hA d_Mod_close_99 rfl (by omega) (by decide) ?_
    refine V_iconst (v := 3) d_Mod_close_100 (by decide) ?_
    refine V_icmp_eq 108 d_Mod_close_101 (by decide) (fun h101 => ?_) (fun h101 => ?_)
    · refine V_iconst (v := 0) d_Mod_close_108 (by decide) ?_
      refine V_eqi (show _ = clsz r i from (if_pos h101).symm) ?_
      refine V_istore (lv' := [(13, .int (clsz r i)), (11, .long (cls1 r i)), (0, .ref o), (1, .int x), (2, .int (nI a)), (3, .int v), (4, .long w), (6, .long h), (8, .long d), (10, .int (nI i))]) d_Mod_close_109 (by decide) rfl ?_
      refine V_lv [2, 3, 4, 5, 6, 7, 8, 9, 1, 0] rfl ?_
      exact Mod_cl_111 hA hi hsp hK
    · refine V_iconst (v := 1) d_Mod_close_104 (by decide) ?_
      refine V_goto 109 d_Mod_close_105 (by decide) ?_
      refine V_eqi (show _ = clsz r i from (if_neg h101).symm) ?_
      refine V_istore (lv' := [(13, .int (clsz r i)), (11, .long (cls1 r i)), (0, .ref o), (1, .int x), (2, .int (nI a)), (3, .int v), (4, .long w), (6, .long h), (8, .long d), (10, .int (nI i))]) d_Mod_close_109 (by decide) rfl ?_
      refine V_lv [2, 3, 4, 5, 6, 7, 8, 9, 1, 0] rfl ?_
      exact Mod_cl_111 hA hi hsp hK
set_option maxRecDepth 100000 in
set_option maxHeartbeats 4000000 in
theorem Mod_cl_61 {l : Launch} {D : va_G} {ac : Nat → ClassId} {o : Nat} {ad : Nat → Nat} {r : RS} {M0 : MP} {Q : Option Value → MP → Prop} (hA : rAD o ad) {a e : Nat} {x v : Int32} {sp : Nat → Nat} {t9 : T3} (he : gF r 11 = nI e) (he2 : e ≤ 3100) (hsp : ∀ j, a ≤ j → j < e → gB r 7 j = nI (sp j) ∧ 0 < sp j ∧ j + sp j ≤ e) (hX : ∀ (i : Nat) (t : T3), ¬ i < e → t = t9 → V l D (tyl ac) t_Mod_close 0 0 359 [(0, .ref o), (1, .int x), (2, .int (nI a)), (3, .int v), (4, .long t.1), (6, .long t.2.1), (8, .long t.2.2), (10, .int (nI i))] [] (rM ac o ad (r) M0) Q) : ∀ (m i : Nat) (t : T3), a ≤ i → e ≤ i + m → i ≤ e → clo r v sp e m i t = t9 → V l D (tyl ac) t_Mod_close 0 0 61 [(0, .ref o), (1, .int x), (2, .int (nI a)), (3, .int v), (4, .long t.1), (6, .long t.2.1), (8, .long t.2.2), (10, .int (nI i))] [] (rM ac o ad (r) M0) Q := by
  intro m
  induction m with
  | zero =>
    intro i t h1 h2 h3 hT
    refine V_iload d_Mod_close_61 rfl ?_
    refine V_ar_n d_Mod_close_63 rfl ?_
    refine VR_geti d_Mod_close_64 f_Mod_90 (by decide) ?_
    refine V_eqi (show _ = nI e from he) ?_
    refine V_icmp_ge 359 d_Mod_close_67 (by decide) (fun h67 => ?_) (fun h67 => ?_)
    · exact hX i t (by omega) hT
    · exact absurd (nI_le (show e ≤ i by omega) (by omega)) h67
  | succ m ih =>
    intro i t h1 h2 h3 hT
    refine V_iload d_Mod_close_61 rfl ?_
    refine V_ar_n d_Mod_close_63 rfl ?_
    refine VR_geti d_Mod_close_64 f_Mod_90 (by decide) ?_
    refine V_eqi (show _ = nI e from he) ?_
    refine V_icmp_ge 359 d_Mod_close_67 (by decide) (fun h67 => ?_) (fun h67 => ?_)
    · have hge : ¬ i < e := fun y => absurd h67 (nI_ge y (by omega))
      exact hX i t hge (by rw [clo, if_neg hge] at hT; exact hT)
    · have hlt : i < e := by
        rcases Nat.lt_or_ge i e with y | y
        · exact y
        · exact absurd (nI_le y (by omega)) h67
      obtain ⟨s1, s2, s3⟩ := hsp i h1 hlt
      rw [clo, if_pos hlt] at hT
      exact Mod_cl_70 hA (by omega) s1 (ih (i + sp i) (cst r v i t) (by omega) (by omega) (by omega) hT)
end
section
/-! close: what comes behind the loop -/
def clhd (r : RS) (p n : Nat) (v : Int32) (w h d : Int64) : RS := w1 (w1 (w1 (w1 (w1 (w1 (w1 r 1 p (if v = 0 then 4 else 5)) 2 p w.toInt32) 3 p h.toInt32) 4 p d.toInt32) 5 p 0) 6 p 0) 7 p (nI (n + 1))
/-- r: the state behind the checks; a, e: the list's items; p, n, q: the register's place and size and the end of all; q1: that end once it is emptied; L: the lists that stay -/
def clz (r : RS) (a e p n q q1 k L : Nat) (v : Int32) (w h d : Int64) : RS := sF (sF (mvc a (p + 1) (e - a) (clhd (mak (emp r p n q k) p (e - a + 1) q1 k) p (e - a) v w h d) 0) 11 (nI a)) 8 (nI L)
abbrev clok (r : RS) (a e : Nat) (w h d : Int64) : Prop := ¬ iszl w = 0 ∧ ¬ iszl h = 0 ∧ ¬ iszl d = 0 ∧ nstm r a (e - a) ≤ 99
theorem mvd_F (n k : Nat) : ∀ (m : Nat) (r : RS) (i : Nat), gF (mvd n m r i) k = gF r k := by
  intro m
  induction m with
  | zero => intro r i; rfl
  | succ m ih => intro r i; exact ih _ _
theorem mvu_F (n p k : Nat) : ∀ (m : Nat) (r : RS), gF (mvu n p m r) k = gF r k := by
  intro m
  induction m with
  | zero => intro r; rfl
  | succ m ih => intro r; exact ih _
theorem emp_F (r : RS) (p n q j k : Nat) : gF (emp r p n q j) k = gF r k := mvd_F n k _ _ _
theorem mak_F (r : RS) (p n q j k : Nat) : gF (mak r p n q j) k = gF r k := mvu_F n p k _ _
set_option maxRecDepth 100000 in
set_option maxHeartbeats 4000000 in
theorem Mod_cl_519 {l : Launch} {D : va_G} {ac : Nat → ClassId} {o : Nat} {ad : Nat → Nat} {M0 : MP} (hA : rAD o ad) {a n p k L : Nat} {v : Int32} {w h d : Int64} (ha : a + n ≤ 6200) (hp : p + 1 + n ≤ 6200) : ∀ (m i : Nat) (r : RS), i + m = n → gF r 8 = nI (L + 1) → V l D (tyl ac) t_Mod_close 0 0 519 [(0, .ref o), (1, .int (nI k)), (2, .int (nI a)), (3, .int v), (4, .long w), (6, .long h), (8, .long d), (10, .int (nI n)), (11, .int (nI p)), (12, .int (nI i))] [] (rM ac o ad (r) M0) (fun rv M' => rv = some (.int (1)) ∧ M' = rM ac o ad (sF (sF (mvc a (p + 1) m r i) 11 (nI a)) 8 (nI L)) M0) := by
  intro m
  induction m with
  | zero =>
    intro i r h1 hL
    refine V_iload d_Mod_close_519 rfl ?_
    refine V_iload d_Mod_close_521 rfl ?_
    refine V_icmp_ge 547 d_Mod_close_523 (by decide) (fun h523 => ?_) (fun h523 => ?_)
    · refine V_ar_n d_Mod_close_547 rfl ?_
      refine V_iload_n d_Mod_close_548 rfl ?_
      refine VR_puti d_Mod_close_549 f_Mod_90 (by decide) ?_
      refine V_ar_n d_Mod_close_552 rfl ?_
      refine V_dup d_Mod_close_553 rfl ?_
      refine VR_geti d_Mod_close_554 f_Mod_97 (by decide) ?_
      refine V_eqi (show _ = nI (L + 1) from hL) ?_
      refine V_iconst (v := 1) d_Mod_close_557 (by decide) ?_
      refine V_isub d_Mod_close_558 ?_
      refine V_eqi (nI_pred L) ?_
      refine VR_puti d_Mod_close_559 f_Mod_97 (by decide) ?_
      refine V_iconst (v := 1) d_Mod_close_562 (by decide) ?_
      exact V_zreturn d_Mod_close_563 rfl nz1 ⟨rfl, rfl⟩
    · exact absurd (nI_le (show n ≤ i by omega) (by omega)) h523
  | succ m ih =>
    intro i r h1 hL
    refine V_iload d_Mod_close_519 rfl ?_
    refine V_iload d_Mod_close_521 rfl ?_
    refine V_icmp_ge 547 d_Mod_close_523 (by decide) (fun h523 => ?_) (fun h523 => ?_)
    · exact absurd h523 (nI_ge (by omega) (by omega))
    · refine V_ar_n d_Mod_close_526 rfl ?_
      refine V_iload_n d_Mod_close_527 rfl ?_
      refine V_iload d_Mod_close_528 rfl ?_
      refine V_iadd d_Mod_close_530 ?_
      refine V_eqi (nI_add a i) ?_
      refine V_iload d_Mod_close_531 rfl ?_
      refine V_iconst (v := nI 1) d_Mod_close_533 (by decide) ?_
      refine V_iadd d_Mod_close_534 ?_
      refine V_eqi (nI_add p 1) ?_
      refine V_iload d_Mod_close_535 rfl ?_
      refine V_iadd d_Mod_close_537 ?_
      refine V_eqi (nI_add (p + 1) i) ?_
      refine VR_cv2 d_Mod_close_538 c_Mod_123 (Mod_move hA (by omega) (by omega)) ⟨by decide, by decide⟩ rfl (Nat.le_of_ble_eq_true rfl) ?_
      refine V_iinc (v := nI (i + 1)) (lv' := [(12, .int (nI (i + 1))), (0, .ref o), (1, .int (nI k)), (2, .int (nI a)), (3, .int v), (4, .long w), (6, .long h), (8, .long d), (10, .int (nI n)), (11, .int (nI p))]) 9 d_Mod_close_541 rfl (nI_1 i) (by decide) rfl ?_
      refine V_goto 519 d_Mod_close_544 (by decide) ?_
      refine V_lv [1, 2, 3, 4, 5, 6, 7, 8, 9, 0] rfl ?_
      exact ih (i + 1) _ (by omega) hL
set_option maxRecDepth 100000 in
set_option maxHeartbeats 4000000 in
theorem Mod_cl_414 {l : Launch} {D : va_G} {ac : Nat → ClassId} {o : Nat} {ad : Nat → Nat} {M0 : MP} {r : RS} (hA : rAD o ad) {a e p n q q1 k L : Nat} {v x10 : Int32} {w h d : Int64} (hst : stt r k = nI p) (hsz : gB r 12 k = nI n) (hall : 3100 + shv r = nI q) (hpq : p + n ≤ q) (hq : q ≤ 6200) (hk : k < 8) (hst1 : stt (emp r p n q k) k = nI p) (hall1 : 3100 + shv (emp r p n q k) = nI q1) (hp : 0 < p) (hpq1 : p ≤ q1) (hq1 : q1 + (e - a + 1) ≤ 6200) (hst2 : stt (mak (emp r p n q k) p (e - a + 1) q1 k) k = nI p) (he : gF r 11 = nI e) (hae : a ≤ e) (he2 : e ≤ 3100) (hL : gF r 8 = nI (L + 1)) : V l D (tyl ac) t_Mod_close 0 0 414 [(0, .ref o), (1, .int (nI k)), (2, .int (nI a)), (3, .int v), (4, .long w), (6, .long h), (8, .long d), (10, .int x10)] [] (rM ac o ad (r) M0) (fun rv M' => rv = some (.int (1)) ∧ M' = rM ac o ad (clz r a e p n q q1 k L v w h d) M0) := by
  refine V_ar_n d_Mod_close_414 rfl ?_
  refine V_iload_n d_Mod_close_415 rfl ?_
  refine VR_cv1 d_Mod_close_416 c_Mod_135 (Mod_empty hA hst hsz hall hpq hq hk) ⟨by decide, by decide⟩ rfl (Nat.le_of_ble_eq_true rfl) ?_
  refine V_ar_n d_Mod_close_419 rfl ?_
  refine VR_geti d_Mod_close_420 f_Mod_90 (by decide) ?_
  refine V_eqi (show _ = nI e from (emp_F _ _ _ _ _ _).trans he) ?_
  refine V_iload_n d_Mod_close_423 rfl ?_
  refine V_isub d_Mod_close_424 ?_
  refine V_eqi (pk_sub hae) ?_
  refine V_istore (lv' := [(10, .int (nI (e - a))), (0, .ref o), (1, .int (nI k)), (2, .int (nI a)), (3, .int v), (4, .long w), (6, .long h), (8, .long d)]) d_Mod_close_425 (by decide) rfl ?_
  refine V_ar_n d_Mod_close_427 rfl ?_
  refine V_iload_n d_Mod_close_428 rfl ?_
  refine V_iload d_Mod_close_429 rfl ?_
  refine V_iconst (v := nI 1) d_Mod_close_431 (by decide) ?_
  refine V_iadd d_Mod_close_432 ?_
  refine V_eqi (nI_add (e - a) 1) ?_
  refine VR_cv2 d_Mod_close_433 c_Mod_139 (Mod_make hA hst1 hall1 hp hpq1 hq1 hk) ⟨by decide, by decide⟩ rfl (Nat.le_of_ble_eq_true rfl) ?_
  refine V_ar_n d_Mod_close_436 rfl ?_
  refine V_iload_n d_Mod_close_437 rfl ?_
  refine VR_ci1 d_Mod_close_438 c_Mod_119 (Mod_start hA (by omega)) ⟨by decide, by decide⟩ rfl (Nat.le_of_ble_eq_true rfl) ?_
  refine V_eqi (show _ = nI p from hst2) ?_
  refine V_istore (lv' := [(11, .int (nI p)), (10, .int (nI (e - a))), (0, .ref o), (1, .int (nI k)), (2, .int (nI a)), (3, .int v), (4, .long w), (6, .long h), (8, .long d)]) d_Mod_close_441 (by decide) rfl ?_
  refine V_ar_n d_Mod_close_443 rfl ?_
  refine VR_geta d_Mod_close_444 f_Mod_7 (by decide) ?_
  refine V_iload d_Mod_close_447 rfl ?_
  refine V_iload_n d_Mod_close_449 rfl ?_
  refine V_if_eq 457 d_Mod_close_450 (by decide) (fun h450 => ?_) (fun h450 => ?_)
  · refine V_iconst (v := 4) d_Mod_close_457 (by decide) ?_
    refine V_eqi (show _ = (if v = 0 then 4 else 5) from (if_pos h450).symm) ?_
    refine VR_iast hA d_Mod_close_458 rfl (by omega) (by decide) ?_
    refine V_ar_n d_Mod_close_459 rfl ?_
    refine VR_geta d_Mod_close_460 f_Mod_13 (by decide) ?_
    refine V_iload d_Mod_close_463 rfl ?_
    refine V_lload d_Mod_close_465 rfl ?_
    refine V_l2i d_Mod_close_467 ?_
    refine VR_iast hA d_Mod_close_468 rfl (by omega) (by decide) ?_
    refine V_ar_n d_Mod_close_469 rfl ?_
    refine VR_geta d_Mod_close_470 f_Mod_16 (by decide) ?_
    refine V_iload d_Mod_close_473 rfl ?_
    refine V_lload d_Mod_close_475 rfl ?_
    refine V_l2i d_Mod_close_477 ?_
    refine VR_iast hA d_Mod_close_478 rfl (by omega) (by decide) ?_
    refine V_ar_n d_Mod_close_479 rfl ?_
    refine VR_geta d_Mod_close_480 f_Mod_19 (by decide) ?_
    refine V_iload d_Mod_close_483 rfl ?_
    refine V_lload d_Mod_close_485 rfl ?_
    refine V_l2i d_Mod_close_487 ?_
    refine VR_iast hA d_Mod_close_488 rfl (by omega) (by decide) ?_
    refine V_ar_n d_Mod_close_489 rfl ?_
    refine VR_geta d_Mod_close_490 f_Mod_22 (by decide) ?_
    refine V_iload d_Mod_close_493 rfl ?_
    refine V_iconst (v := 0) d_Mod_close_495 (by decide) ?_
    refine VR_iast hA d_Mod_close_496 rfl (by omega) (by decide) ?_
    refine V_ar_n d_Mod_close_497 rfl ?_
    refine VR_geta d_Mod_close_498 f_Mod_25 (by decide) ?_
    refine V_iload d_Mod_close_501 rfl ?_
    refine V_iconst (v := 0) d_Mod_close_503 (by decide) ?_
    refine VR_iast hA d_Mod_close_504 rfl (by omega) (by decide) ?_
    refine V_ar_n d_Mod_close_505 rfl ?_
    refine VR_geta d_Mod_close_506 f_Mod_28 (by decide) ?_
    refine V_iload d_Mod_close_509 rfl ?_
    refine V_iload d_Mod_close_511 rfl ?_
    refine V_iconst (v := nI 1) d_Mod_close_513 (by decide) ?_
    refine V_iadd d_Mod_close_514 ?_
    refine V_eqi (nI_add (e - a) 1) ?_
    refine VR_iast hA d_Mod_close_515 rfl (by omega) (by decide) ?_
    refine V_iconst (v := nI 0) d_Mod_close_516 (by decide) ?_
    refine V_istore (lv' := [(12, .int (nI 0)), (11, .int (nI p)), (10, .int (nI (e - a))), (0, .ref o), (1, .int (nI k)), (2, .int (nI a)), (3, .int v), (4, .long w), (6, .long h), (8, .long d)]) d_Mod_close_517 (by decide) rfl ?_
    refine V_lv [3, 4, 5, 6, 7, 8, 9, 2, 1, 0] rfl ?_
    exact Mod_cl_519 hA (by omega) (by omega) (e - a) 0 (clhd (mak (emp r p n q k) p (e - a + 1) q1 k) p (e - a) v w h d) (by omega) ((mak_F (emp r p n q k) p (e - a + 1) q1 k 8).trans ((emp_F r p n q k 8).trans hL))
  · refine V_iconst (v := 5) d_Mod_close_453 (by decide) ?_
    refine V_goto 458 d_Mod_close_454 (by decide) ?_
    refine V_eqi (show _ = (if v = 0 then 4 else 5) from (if_neg h450).symm) ?_
    refine VR_iast hA d_Mod_close_458 rfl (by omega) (by decide) ?_
    refine V_ar_n d_Mod_close_459 rfl ?_
    refine VR_geta d_Mod_close_460 f_Mod_13 (by decide) ?_
    refine V_iload d_Mod_close_463 rfl ?_
    refine V_lload d_Mod_close_465 rfl ?_
    refine V_l2i d_Mod_close_467 ?_
    refine VR_iast hA d_Mod_close_468 rfl (by omega) (by decide) ?_
    refine V_ar_n d_Mod_close_469 rfl ?_
    refine VR_geta d_Mod_close_470 f_Mod_16 (by decide) ?_
    refine V_iload d_Mod_close_473 rfl ?_
    refine V_lload d_Mod_close_475 rfl ?_
    refine V_l2i d_Mod_close_477 ?_
    refine VR_iast hA d_Mod_close_478 rfl (by omega) (by decide) ?_
    refine V_ar_n d_Mod_close_479 rfl ?_
    refine VR_geta d_Mod_close_480 f_Mod_19 (by decide) ?_
    refine V_iload d_Mod_close_483 rfl ?_
    refine V_lload d_Mod_close_485 rfl ?_
    refine V_l2i d_Mod_close_487 ?_
    refine VR_iast hA d_Mod_close_488 rfl (by omega) (by decide) ?_
    refine V_ar_n d_Mod_close_489 rfl ?_
    refine VR_geta d_Mod_close_490 f_Mod_22 (by decide) ?_
    refine V_iload d_Mod_close_493 rfl ?_
    refine V_iconst (v := 0) d_Mod_close_495 (by decide) ?_
    refine VR_iast hA d_Mod_close_496 rfl (by omega) (by decide) ?_
    refine V_ar_n d_Mod_close_497 rfl ?_
    refine VR_geta d_Mod_close_498 f_Mod_25 (by decide) ?_
    refine V_iload d_Mod_close_501 rfl ?_
    refine V_iconst (v := 0) d_Mod_close_503 (by decide) ?_
    refine VR_iast hA d_Mod_close_504 rfl (by omega) (by decide) ?_
    refine V_ar_n d_Mod_close_505 rfl ?_
    refine VR_geta d_Mod_close_506 f_Mod_28 (by decide) ?_
    refine V_iload d_Mod_close_509 rfl ?_
    refine V_iload d_Mod_close_511 rfl ?_
    refine V_iconst (v := nI 1) d_Mod_close_513 (by decide) ?_
    refine V_iadd d_Mod_close_514 ?_
    refine V_eqi (nI_add (e - a) 1) ?_
    refine VR_iast hA d_Mod_close_515 rfl (by omega) (by decide) ?_
    refine V_iconst (v := nI 0) d_Mod_close_516 (by decide) ?_
    refine V_istore (lv' := [(12, .int (nI 0)), (11, .int (nI p)), (10, .int (nI (e - a))), (0, .ref o), (1, .int (nI k)), (2, .int (nI a)), (3, .int v), (4, .long w), (6, .long h), (8, .long d)]) d_Mod_close_517 (by decide) rfl ?_
    refine V_lv [3, 4, 5, 6, 7, 8, 9, 2, 1, 0] rfl ?_
    exact Mod_cl_519 hA (by omega) (by omega) (e - a) 0 (clhd (mak (emp r p n q k) p (e - a + 1) q1 k) p (e - a) v w h d) (by omega) ((mak_F (emp r p n q k) p (e - a + 1) q1 k 8).trans ((emp_F r p n q k 8).trans hL))
set_option maxRecDepth 100000 in
set_option maxHeartbeats 4000000 in
theorem Mod_cl_374 {l : Launch} {D : va_G} {ac : Nat → ClassId} {o : Nat} {ad : Nat → Nat} {M0 : MP} {r : RS} {Q : Option Value → MP → Prop} (hA : rAD o ad) {a e : Nat} {x v x10 : Int32} {w h d : Int64} (he : gF r 11 = nI e) (hae : a ≤ e) (he2 : e < 3100) (hN : ¬ clok r a e w h d → Q (some (.int 0)) (rM ac o ad r M0)) (hY : clok r a e w h d → V l D (tyl ac) t_Mod_close 0 0 414 [(0, .ref o), (1, .int x), (2, .int (nI a)), (3, .int v), (4, .long w), (6, .long h), (8, .long d), (10, .int x10)] [] (rM ac o ad (r) M0) Q) : V l D (tyl ac) t_Mod_close 0 0 374 [(0, .ref o), (1, .int x), (2, .int (nI a)), (3, .int v), (4, .long w), (6, .long h), (8, .long d), (10, .int x10)] [] (rM ac o ad (r) M0) Q := by
  refine V_lload d_Mod_close_374 rfl ?_
  refine VS_ci1 d_Mod_close_376 c_Mod_127 (Mod_isSizeLong w) ⟨by decide, by decide⟩ (Nat.le_of_ble_eq_true rfl) ?_
  refine V_if_eq 412 d_Mod_close_379 (by decide) (fun h379 => ?_) (fun h379 => ?_)
  · refine V_iconst (v := 0) d_Mod_close_412 (by decide) ?_
    exact V_zreturn d_Mod_close_413 rfl nz0 (hN (fun y => y.1 h379))
  · refine V_lload d_Mod_close_382 rfl ?_
    refine VS_ci1 d_Mod_close_384 c_Mod_127 (Mod_isSizeLong h) ⟨by decide, by decide⟩ (Nat.le_of_ble_eq_true rfl) ?_
    refine V_if_eq 412 d_Mod_close_387 (by decide) (fun h387 => ?_) (fun h387 => ?_)
    · refine V_iconst (v := 0) d_Mod_close_412 (by decide) ?_
      exact V_zreturn d_Mod_close_413 rfl nz0 (hN (fun y => y.2.1 h387))
    · refine V_lload d_Mod_close_390 rfl ?_
      refine VS_ci1 d_Mod_close_392 c_Mod_127 (Mod_isSizeLong d) ⟨by decide, by decide⟩ (Nat.le_of_ble_eq_true rfl) ?_
      refine V_if_eq 412 d_Mod_close_395 (by decide) (fun h395 => ?_) (fun h395 => ?_)
      · refine V_iconst (v := 0) d_Mod_close_412 (by decide) ?_
        exact V_zreturn d_Mod_close_413 rfl nz0 (hN (fun y => y.2.2.1 h395))
      · have hnl := nstm_le r a (e - a)
        refine V_ar_n d_Mod_close_398 rfl ?_
        refine V_iload_n d_Mod_close_399 rfl ?_
        refine V_ar_n d_Mod_close_400 rfl ?_
        refine VR_geti d_Mod_close_401 f_Mod_90 (by decide) ?_
        refine V_eqi (show _ = nI e from he) ?_
        refine VR_ci2 d_Mod_close_404 c_Mod_131 (Mod_nested hA hae (by omega)) ⟨by decide, by decide⟩ rfl (Nat.le_of_ble_eq_true rfl) ?_
        refine V_bipush (v := nI 99) d_Mod_close_407 (by decide) ?_
        refine V_icmp_le 414 d_Mod_close_409 (by decide) (fun h409 => ?_) (fun h409 => ?_)
        · exact hY ⟨h379, h387, h395, (nI_leI (by omega) (by decide)).mp h409⟩
        · refine V_iconst (v := 0) d_Mod_close_412 (by decide) ?_
          exact V_zreturn d_Mod_close_413 rfl nz0 (hN (fun y => h409 ((nI_leI (by omega) (by decide)).mpr y.2.2.2)))
def clh2 (v : Int32) (h d : Int64) : Int64 := h - (if v = 0 then 0 else d)
set_option maxRecDepth 100000 in
set_option maxHeartbeats 4000000 in
theorem Mod_cl_359 {l : Launch} {D : va_G} {ac : Nat → ClassId} {o : Nat} {ad : Nat → Nat} {M0 : MP} {r : RS} {Q : Option Value → MP → Prop} {a : Nat} {x v x10 : Int32} {w h d : Int64} (hK : V l D (tyl ac) t_Mod_close 0 0 374 [(0, .ref o), (1, .int x), (2, .int (nI a)), (3, .int v), (4, .long w), (6, .long (clh2 v h d)), (8, .long d), (10, .int x10)] [] (rM ac o ad (r) M0) Q) : V l D (tyl ac) t_Mod_close 0 0 359 [(0, .ref o), (1, .int x), (2, .int (nI a)), (3, .int v), (4, .long w), (6, .long h), (8, .long d), (10, .int x10)] [] (rM ac o ad (r) M0) Q := by
  refine V_lload d_Mod_close_359 rfl ?_
  refine V_iload_n d_Mod_close_361 rfl ?_
  refine V_if_eq 370 d_Mod_close_362 (by decide) (fun h362 => ?_) (fun h362 => ?_)
  · refine V_lconst (v := 0) d_Mod_close_370 (by decide) ?_
    refine V_lsub d_Mod_close_371 ?_
    refine V_eql (show _ = clh2 v h d from by rw [clh2, if_pos h362]) ?_
    refine V_lstore (lv' := [(6, .long (clh2 v h d)), (0, .ref o), (1, .int x), (2, .int (nI a)), (3, .int v), (4, .long w), (8, .long d), (10, .int x10)]) d_Mod_close_372 (by decide) rfl ?_
    refine V_lv [1, 2, 3, 4, 5, 0, 6, 7] rfl ?_
    exact hK
  · refine V_lload d_Mod_close_365 rfl ?_
    refine V_goto 371 d_Mod_close_367 (by decide) ?_
    refine V_lsub d_Mod_close_371 ?_
    refine V_eql (show _ = clh2 v h d from by rw [clh2, if_neg h362]) ?_
    refine V_lstore (lv' := [(6, .long (clh2 v h d)), (0, .ref o), (1, .int x), (2, .int (nI a)), (3, .int v), (4, .long w), (8, .long d), (10, .int x10)]) d_Mod_close_372 (by decide) rfl ?_
    refine V_lv [1, 2, 3, 4, 5, 0, 6, 7] rfl ?_
    exact hK
abbrev clen (r : RS) (x : Int32) : Prop := ¬ gF r 8 = 0 ∧ ¬ x < 0 ∧ ¬ 7 < x ∧ ¬ hrm r 1 = 0
/-- the sizes of the box that the list would become -/
def clt (r : RS) (a e : Nat) (sp : Nat → Nat) (v : Int32) : T3 := clo r v sp e (e - a) a (0, 0, 0)
abbrev cldo (r : RS) (a e : Nat) (sp : Nat → Nat) (v x : Int32) : Prop := clen r x ∧ clok r a e (clt r a e sp v).1 (clh2 v (clt r a e sp v).2.1 (clt r a e sp v).2.2) (clt r a e sp v).2.2
def clr (r : RS) (a e p n q q1 k L : Nat) (sp : Nat → Nat) (v x : Int32) : RS := if cldo r a e sp v x then clz (sF r 0 0) a e p n q q1 k L v (clt r a e sp v).1 (clh2 v (clt r a e sp v).2.1 (clt r a e sp v).2.2) (clt r a e sp v).2.2 else sF r 0 0
theorem clo_sF (r : RS) (v : Int32) (sp : Nat → Nat) (e : Nat) (x : Int32) : ∀ (m i : Nat) (t : T3), clo (sF r 0 x) v sp e m i t = clo r v sp e m i t := by
  intro m
  induction m with
  | zero => intro i t; rfl
  | succ m ih =>
    intro i t
    unfold clo
    rw [ih]
    rfl
theorem nI_7 {x : Int32} (h0 : ¬ x < 0) (h1 : ¬ 7 < x) : ∃ m, m < 8 ∧ x = nI m := by
  obtain ⟨j, hj, e⟩ := nI_of2 (x := x) (M := 7) (n := 7) (by decide) h0 (Int32.not_lt.mp h1)
  exact ⟨j, by omega, e⟩
theorem nstm_sF (r : RS) (x : Int32) (a n : Nat) : nstm (sF r 0 x) a n = nstm r a n := by
  induction n with
  | zero => rfl
  | succ n ih =>
    have hc : ∀ i m, nstc (sF r 0 x) a i m = nstc r a i m := by
      intro i m
      induction m with
      | zero => rfl
      | succ m ih2 => show nstc (sF r 0 x) a i m + _ = nstc r a i m + _; rw [ih2]; rfl
    show max (nstm (sF r 0 x) a n) (nstx (sF r 0 x) a (a + n)) = max (nstm r a n) (nstx r a (a + n))
    rw [ih]
    have hx : nstx (sF r 0 x) a (a + n) = nstx r a (a + n) := by unfold nstx; rw [hc]; rfl
    rw [hx]
set_option maxRecDepth 100000 in
set_option maxHeartbeats 4000000 in
theorem Mod_close {l : Launch} {D : va_G} {ac : Nat → ClassId} {o : Nat} {ad : Nat → Nat} {r : RS} (hA : rAD o ad) {a e p n q q1 k L : Nat} {sp : Nat → Nat} {v x : Int32} (hy1 : clen r x → gF r 8 = nI (L + 1) ∧ L < 100 ∧ gB r 9 L = nI a ∧ gF r 11 = nI e ∧ a ≤ e ∧ e < 3100 ∧ (∀ j, a ≤ j → j < e → gB r 7 j = nI (sp j) ∧ 0 < sp j ∧ j + sp j ≤ e) ∧ isv r (L + 1) = v) (hy2 : cldo r a e sp v x → x = nI k ∧ stt r k = nI p ∧ gB r 12 k = nI n ∧ 3100 + shv r = nI q ∧ p + n ≤ q ∧ q ≤ 6200 ∧ k < 8 ∧ stt (emp (sF r 0 0) p n q k) k = nI p ∧ 3100 + shv (emp (sF r 0 0) p n q k) = nI q1 ∧ 0 < p ∧ p ≤ q1 ∧ q1 + (e - a + 1) ≤ 6200 ∧ stt (mak (emp (sF r 0 0) p n q k) p (e - a + 1) q1 k) k = nI p) : RCi l D ac o ad t_Mod_close [.int x] r (if cldo r a e sp v x then 1 else 0) (clr r a e p n q q1 k L sp v x) := fun M0 => by
  refine Ct_of (by decide) (Nat.le_of_ble_eq_true rfl) ?_
  refine V_ar_n d_Mod_close_0 rfl ?_
  refine V_iconst (v := 0) d_Mod_close_1 (by decide) ?_
  refine VR_puti d_Mod_close_2 f_Mod_81 (by decide) ?_
  refine V_ar_n d_Mod_close_5 rfl ?_
  refine VR_geti d_Mod_close_6 f_Mod_97 (by decide) ?_
  refine V_if_eq 30 d_Mod_close_9 (by decide) (fun h9 => ?_) (fun h9 => ?_)
  · refine V_iconst (v := 0) d_Mod_close_30 (by decide) ?_
    exact V_zreturn d_Mod_close_31 rfl nz0 ⟨by rw [if_neg (fun z => z.1.1 h9)], by rw [clr, if_neg (fun z => z.1.1 h9)]⟩
  · refine V_iload_n d_Mod_close_12 rfl ?_
    refine V_if_lt 30 d_Mod_close_13 (by decide) (fun h13 => ?_) (fun h13 => ?_)
    · refine V_iconst (v := 0) d_Mod_close_30 (by decide) ?_
      exact V_zreturn d_Mod_close_31 rfl nz0 ⟨by rw [if_neg (fun z => z.1.2.1 h13)], by rw [clr, if_neg (fun z => z.1.2.1 h13)]⟩
    · refine V_iload_n d_Mod_close_16 rfl ?_
      refine V_bipush (v := 7) d_Mod_close_17 (by decide) ?_
      refine V_icmp_gt 30 d_Mod_close_19 (by decide) (fun h19 => ?_) (fun h19 => ?_)
      · refine V_iconst (v := 0) d_Mod_close_30 (by decide) ?_
        exact V_zreturn d_Mod_close_31 rfl nz0 ⟨by rw [if_neg (fun z => z.1.2.2.1 h19)], by rw [clr, if_neg (fun z => z.1.2.2.1 h19)]⟩
      · refine V_ar_n d_Mod_close_22 rfl ?_
        refine V_iconst (v := 1) d_Mod_close_23 (by decide) ?_
        refine VR_ci1 d_Mod_close_24 c_Mod_100 (Mod_hasRoom hA 1) ⟨by decide, by decide⟩ rfl (Nat.le_of_ble_eq_true rfl) ?_
        refine V_if_ne 32 d_Mod_close_27 (by decide) (fun h27 => ?_) (fun h27 => ?_)
        · have hen : clen r x := ⟨h9, h13, h19, h27⟩
          obtain ⟨hL, hL2, hba, he, hae, he2, hsp, hv⟩ := hy1 hen
          refine V_ar_n d_Mod_close_32 rfl ?_
          refine VR_geta d_Mod_close_33 f_Mod_31 (by decide) ?_
          refine V_ar_n d_Mod_close_36 rfl ?_
          refine VR_geti d_Mod_close_37 f_Mod_97 (by decide) ?_
          refine V_eqi (show _ = nI (L + 1) from hL) ?_
          refine V_iconst (v := 1) d_Mod_close_40 (by decide) ?_
          refine V_isub d_Mod_close_41 ?_
          refine V_eqi (nI_pred L) ?_
          refine VR_iald hA d_Mod_close_42 rfl (by omega) (by decide) ?_
          refine V_eqi (show _ = nI a from hba) ?_
          refine V_istore_n (lv' := [(2, .int (nI a)), (0, .ref o), (1, .int x)]) d_Mod_close_43 (by decide) rfl ?_
          refine V_ar_n d_Mod_close_44 rfl ?_
          refine VR_ci0 d_Mod_close_45 c_Mod_104 (Mod_isVertical hA hL (by omega)) ⟨by decide, by decide⟩ rfl (Nat.le_of_ble_eq_true rfl) ?_
          refine V_eqi (show _ = v from hv) ?_
          refine V_istore_n (lv' := [(3, .int v), (2, .int (nI a)), (0, .ref o), (1, .int x)]) d_Mod_close_48 (by decide) rfl ?_
          refine V_lconst (v := 0) d_Mod_close_49 (by decide) ?_
          refine V_lstore (lv' := [(4, .long 0), (3, .int v), (2, .int (nI a)), (0, .ref o), (1, .int x)]) d_Mod_close_50 (by decide) rfl ?_
          refine V_lconst (v := 0) d_Mod_close_52 (by decide) ?_
          refine V_lstore (lv' := [(6, .long 0), (4, .long 0), (3, .int v), (2, .int (nI a)), (0, .ref o), (1, .int x)]) d_Mod_close_53 (by decide) rfl ?_
          refine V_lconst (v := 0) d_Mod_close_55 (by decide) ?_
          refine V_lstore (lv' := [(8, .long 0), (6, .long 0), (4, .long 0), (3, .int v), (2, .int (nI a)), (0, .ref o), (1, .int x)]) d_Mod_close_56 (by decide) rfl ?_
          refine V_iload_n d_Mod_close_58 rfl ?_
          refine V_istore (lv' := [(10, .int (nI a)), (8, .long 0), (6, .long 0), (4, .long 0), (3, .int v), (2, .int (nI a)), (0, .ref o), (1, .int x)]) d_Mod_close_59 (by decide) rfl ?_
          refine V_lv [6, 7, 5, 4, 3, 2, 1, 0] rfl ?_
          refine Mod_cl_61 (r := sF r 0 0) (t9 := clt r a e sp v) hA he (by omega) hsp ?_ (e - a) a (0, 0, 0) (Nat.le_refl a) (by omega) hae (clo_sF r v sp e 0 _ _ _)
          intro i t hi ht
          subst ht
          refine Mod_cl_359 ?_
          refine Mod_cl_374 hA he hae (by omega) ?_ ?_
          · intro hn
            have hn2 : ¬ cldo r a e sp v x := fun z => hn ⟨z.2.1, z.2.2.1, z.2.2.2.1, by rw [nstm_sF]; exact z.2.2.2.2⟩
            exact ⟨by rw [if_neg hn2], by rw [clr, if_neg hn2]⟩
          · intro hok
            have hdo : cldo r a e sp v x := ⟨hen, hok.1, hok.2.1, hok.2.2.1, by have h4 := hok.2.2.2; rw [nstm_sF] at h4; exact h4⟩
            obtain ⟨hxk, hst, hsz, hall, hpq, hq, hk, hst1, hall1, hp, hpq1, hq1, hst2⟩ := hy2 hdo
            subst hxk
            rw [if_pos hdo, clr, if_pos hdo]
            exact Mod_cl_414 (r := sF r 0 0) hA hst hsz hall hpq hq hk hst1 hall1 hp hpq1 hq1 hst2 he hae (by omega) hL
        · refine V_iconst (v := 0) d_Mod_close_30 (by decide) ?_
          exact V_zreturn d_Mod_close_31 rfl nz0 ⟨by rw [if_neg (fun z => h27 z.1.2.2.2)], by rw [clr, if_neg (fun z => h27 z.1.2.2.2)]⟩
end
section
/-! placeAll -/
/-- how many boxes stay open at i, of m -/
def popq (r : RS) (i : Nat) : Nat → Nat
  | 0 => 0
  | m + 1 => if gB r 28 m ≤ nI i then popq r i m else m + 1
theorem popq_le (r : RS) (i m : Nat) : popq r i m ≤ m := by
  induction m with
  | zero => exact Nat.le_refl 0
  | succ m ih => unfold popq; split <;> omega
theorem sF_self (r : RS) (k : Nat) {v : Int32} (h : gF r k = v) : sF r k v = r := by
  unfold sF
  have : va_up r.1 k v = r.1 := by
    funext j
    unfold va_up
    split
    · next hj => rw [hj]; exact h.symm
    · rfl
  rw [this]
theorem sF_sF (r : RS) (k : Nat) (u v : Int32) : sF (sF r k u) k v = sF r k v := by
  unfold sF
  simp only [bx_uu]
def plx (r : RS) (q i b bx : Nat) (A : Int32) (s : Int64) : Int64 := (if A = 0 then (gB r 25 (bx - b)).toInt64 else r.2.2.2 (q - 1)) + (if A = 0 then s else 0)
def ply0 (r : RS) (q b bx : Nat) (A : Int32) : Int64 := if A = 0 then r.2.2.2 (q - 1) else (gB r 26 (bx - b)).toInt64
def ply (y : Int64) (A R S : Int32) (s h d : Int64) : Int64 := y + (if A = 0 then (if S = 0 then h else 0) else s) + (if R = 0 then 0 else d)
def pls (r : RS) (R : Int32) (x y hd : Int64) : RS := if R = 0 then szd (szd r x) y else szd (szd (szd r x) y) hd
def plw (A S : Int32) (w hd : Int64) : Int64 := if A = 0 then (if S = 0 then hd else w) else w
def pla1 (r : RS) (q : Nat) (w : Int64) : RS := szd (sL r (vp_updL r.2.2.2 (q - 1) (r.2.2.2 (q - 1) + w))) (r.2.2.2 (q - 1) + w)
def plp (r : RS) (j : Nat) (x y : Int64) : RS := w1 (w1 r 25 j x.toInt32) 26 j y.toInt32
def ple (r : RS) (q i b : Nat) : RS := if ¬ isb r i = 0 ∧ 1 < gB r 7 i ∧ ¬ gF r 33 = 0 then ent r q i b else r
def rlz (r : RS) (i : Nat) (k : Int32) : Int32 := if gB r 1 i = k then 1 else 0
/-- item i is placed: q boxes are open, the innermost is bx -/
def plc (r : RS) (q i b bx : Nat) : RS :=
  ple (plp (pla1 (pls r (rlz r i 2) (plx r q i b bx (acr r bx) (cls1 r i)) (ply (ply0 r q b bx (acr r bx)) (acr r bx) (rlz r i 2) (rlz r i 3) (cls1 r i) (rsel r 3 i bx).toInt64 (rsel r 4 i bx).toInt64) ((rsel r 3 i bx).toInt64 + (rsel r 4 i bx).toInt64)) q (plw (acr r bx) (rlz r i 3) (gB r 2 i).toInt64 ((rsel r 3 i bx).toInt64 + (rsel r 4 i bx).toInt64))) (i - b) (plx r q i b bx (acr r bx) (cls1 r i)) (ply (ply0 r q b bx (acr r bx)) (acr r bx) (rlz r i 2) (rlz r i 3) (cls1 r i) (rsel r 3 i bx).toInt64 (rsel r 4 i bx).toInt64)) q i b
set_option maxRecDepth 100000 in
set_option maxHeartbeats 4000000 in
theorem PL_491 {l : Launch} {D : va_G} {ac : Nat → ClassId} {o : Nat} {ad : Nat → Nat} {M0 : MP} {Q : Option Value → MP → Prop} {r : RS} (hA : rAD o ad) {b n i bx q : Nat} {A R S : Int32} {x y s h d : Int64} (hi : i < 6200) (hbi : b ≤ i) (hib : i - b < 3100) (hbx : b ≤ bx) (hbx2 : bx < 6200) (hbxb : bx - b < 3100) (hq : gF r 27 = nI q) (hq0 : 0 < q) (hq1 : q ≤ 101)  (hK : V l D (tyl ac) t_Mod_placeAll 0 0 34 [(0, .ref o), (1, .int (nI b)), (2, .int (nI n)), (3, .int (nI (i + 1)))] [] (rM ac o ad (r) M0) Q) : V l D (tyl ac) t_Mod_placeAll 0 0 491 [(0, .ref o), (1, .int (nI b)), (2, .int (nI n)), (3, .int (nI i)), (4, .int (nI bx)), (5, .int A), (6, .long x), (8, .long y), (10, .long s), (12, .long h), (14, .long d), (16, .int R), (17, .int S)] [] (rM ac o ad (r) M0) Q := by
  refine V_iinc (v := nI (i + 1)) (lv' := [(3, .int (nI (i + 1))), (0, .ref o), (1, .int (nI b)), (2, .int (nI n)), (4, .int (nI bx)), (5, .int A), (6, .long x), (8, .long y), (10, .long s), (12, .long h), (14, .long d), (16, .int R), (17, .int S)]) 3 d_Mod_placeAll_491 rfl (nI_1 i) (by decide) rfl ?_
  refine V_goto 34 d_Mod_placeAll_494 (by decide) ?_
  refine V_lv [1, 2, 3, 0] rfl ?_
  exact hK
set_option maxRecDepth 100000 in
set_option maxHeartbeats 4000000 in
theorem PL_460 {l : Launch} {D : va_G} {ac : Nat → ClassId} {o : Nat} {ad : Nat → Nat} {M0 : MP} {Q : Option Value → MP → Prop} {r : RS} (hA : rAD o ad) {b n i bx q : Nat} {A R S : Int32} {x y s h d : Int64} (hi : i < 6200) (hbi : b ≤ i) (hib : i - b < 3100) (hbx : b ≤ bx) (hbx2 : bx < 6200) (hbxb : bx - b < 3100) (hq : gF r 27 = nI q) (hq0 : 0 < q) (hq1 : q ≤ 101)  (hK : V l D (tyl ac) t_Mod_placeAll 0 0 34 [(0, .ref o), (1, .int (nI b)), (2, .int (nI n)), (3, .int (nI (i + 1)))] [] (rM ac o ad (ple r q i b) M0) Q) : V l D (tyl ac) t_Mod_placeAll 0 0 460 [(0, .ref o), (1, .int (nI b)), (2, .int (nI n)), (3, .int (nI i)), (4, .int (nI bx)), (5, .int A), (6, .long x), (8, .long y), (10, .long s), (12, .long h), (14, .long d), (16, .int R), (17, .int S)] [] (rM ac o ad (r) M0) Q := by
  refine V_ar_n d_Mod_placeAll_460 rfl ?_
  refine V_iload_n d_Mod_placeAll_461 rfl ?_
  refine VR_ci1 d_Mod_placeAll_462 c_Mod_116 (Mod_isBox hA hi) ⟨by decide, by decide⟩ rfl (Nat.le_of_ble_eq_true rfl) ?_
  refine V_if_eq 491 d_Mod_placeAll_465 (by decide) (fun h465 => ?_) (fun h465 => ?_)
  · rw [ple, if_neg (fun z => z.1 h465)] at hK
    exact PL_491 hA hi hbi hib hbx hbx2 hbxb hq hq0 hq1 hK
  · refine V_ar_n d_Mod_placeAll_468 rfl ?_
    refine VR_geta d_Mod_placeAll_469 f_Mod_28 (by decide) ?_
    refine V_iload_n d_Mod_placeAll_472 rfl ?_
    refine VR_iald hA d_Mod_placeAll_473 rfl (by omega) (by decide) ?_
    refine V_iconst (v := 1) d_Mod_placeAll_474 (by decide) ?_
    refine V_icmp_le 491 d_Mod_placeAll_475 (by decide) (fun h475 => ?_) (fun h475 => ?_)
    · rw [ple, if_neg (fun z => absurd h475 (Int32.not_le.mpr z.2.1))] at hK
      exact PL_491 hA hi hbi hib hbx hbx2 hbxb hq hq0 hq1 hK
    · refine V_ar_n d_Mod_placeAll_478 rfl ?_
      refine VR_geti d_Mod_placeAll_479 f_Mod_156 (by decide) ?_
      refine V_if_eq 491 d_Mod_placeAll_482 (by decide) (fun h482 => ?_) (fun h482 => ?_)
      · rw [ple, if_neg (fun z => z.2.2 h482)] at hK
        exact PL_491 hA hi hbi hib hbx hbx2 hbxb hq hq0 hq1 hK
      · rw [ple, if_pos ⟨h465, Int32.not_le.mp h475, h482⟩] at hK
        refine V_ar_n d_Mod_placeAll_485 rfl ?_
        refine V_iload_n d_Mod_placeAll_486 rfl ?_
        refine V_iload_n d_Mod_placeAll_487 rfl ?_
        refine VR_cv2 d_Mod_placeAll_488 c_Mod_167 (Mod_enter hA hq (by omega) hbi hi hib) ⟨by decide, by decide⟩ rfl (Nat.le_of_ble_eq_true rfl) ?_
        refine V_iinc (v := nI (i + 1)) (lv' := [(3, .int (nI (i + 1))), (0, .ref o), (1, .int (nI b)), (2, .int (nI n)), (4, .int (nI bx)), (5, .int A), (6, .long x), (8, .long y), (10, .long s), (12, .long h), (14, .long d), (16, .int R), (17, .int S)]) 3 d_Mod_placeAll_491 rfl (nI_1 i) (by decide) rfl ?_
        refine V_goto 34 d_Mod_placeAll_494 (by decide) ?_
        refine V_lv [1, 2, 3, 0] rfl ?_
        exact hK
set_option maxRecDepth 100000 in
set_option maxHeartbeats 4000000 in
theorem PL_423 {l : Launch} {D : va_G} {ac : Nat → ClassId} {o : Nat} {ad : Nat → Nat} {M0 : MP} {Q : Option Value → MP → Prop} {r : RS} (hA : rAD o ad) {b n i bx q : Nat} {A R S : Int32} {x y s h d : Int64} (hi : i < 6200) (hbi : b ≤ i) (hib : i - b < 3100) (hbx : b ≤ bx) (hbx2 : bx < 6200) (hbxb : bx - b < 3100) (hq : gF r 27 = nI q) (hq0 : 0 < q) (hq1 : q ≤ 101) {v9 : Int64} (hv9 : r.2.2.2 (q - 1) = v9) (hK : V l D (tyl ac) t_Mod_placeAll 0 0 34 [(0, .ref o), (1, .int (nI b)), (2, .int (nI n)), (3, .int (nI (i + 1)))] [] (rM ac o ad (ple (plp (szd r v9) (i - b) x y) q i b) M0) Q) : V l D (tyl ac) t_Mod_placeAll 0 0 423 [(0, .ref o), (1, .int (nI b)), (2, .int (nI n)), (3, .int (nI i)), (4, .int (nI bx)), (5, .int A), (6, .long x), (8, .long y), (10, .long s), (12, .long h), (14, .long d), (16, .int R), (17, .int S)] [] (rM ac o ad (r) M0) Q := by
  refine V_ar_n d_Mod_placeAll_423 rfl ?_
  refine V_ar_n d_Mod_placeAll_424 rfl ?_
  refine VR_geta d_Mod_placeAll_425 f_Mod_71 (by decide) ?_
  refine V_ar_n d_Mod_placeAll_428 rfl ?_
  refine VR_geti d_Mod_placeAll_429 f_Mod_160 (by decide) ?_
  refine V_eqi (show _ = nI q from hq) ?_
  refine V_iconst (v := 1) d_Mod_placeAll_432 (by decide) ?_
  refine V_isub d_Mod_placeAll_433 ?_
  refine V_eqi (pk_sub (b := 1) hq0) ?_
  refine VR_lald hA d_Mod_placeAll_434 (by omega) ?_
  refine V_eql (show _ = v9 from hv9) ?_
  refine VR_cv1 d_Mod_placeAll_435 c_Mod_163 (Mod_sized _) ⟨by decide, by decide⟩ rfl (Nat.le_of_ble_eq_true rfl) ?_
  refine V_ar_n d_Mod_placeAll_438 rfl ?_
  refine VR_geta d_Mod_placeAll_439 f_Mod_62 (by decide) ?_
  refine V_iload_n d_Mod_placeAll_442 rfl ?_
  refine V_iload_n d_Mod_placeAll_443 rfl ?_
  refine V_isub d_Mod_placeAll_444 ?_
  refine V_eqi (pk_sub hbi) ?_
  refine V_lload d_Mod_placeAll_445 rfl ?_
  refine V_l2i d_Mod_placeAll_447 ?_
  refine VR_iast hA d_Mod_placeAll_448 rfl (by omega) (by decide) ?_
  refine V_ar_n d_Mod_placeAll_449 rfl ?_
  refine VR_geta d_Mod_placeAll_450 f_Mod_65 (by decide) ?_
  refine V_iload_n d_Mod_placeAll_453 rfl ?_
  refine V_iload_n d_Mod_placeAll_454 rfl ?_
  refine V_isub d_Mod_placeAll_455 ?_
  refine V_eqi (pk_sub hbi) ?_
  refine V_lload d_Mod_placeAll_456 rfl ?_
  refine V_l2i d_Mod_placeAll_458 ?_
  refine VR_iast hA d_Mod_placeAll_459 rfl (by omega) (by decide) ?_
  exact PL_460 (r := plp (szd r v9) (i - b) x y) hA hi hbi hib hbx hbx2 hbxb hq hq0 hq1 hK
set_option maxRecDepth 100000 in
set_option maxHeartbeats 4000000 in
theorem PL_374 {l : Launch} {D : va_G} {ac : Nat → ClassId} {o : Nat} {ad : Nat → Nat} {M0 : MP} {Q : Option Value → MP → Prop} {r : RS} (hA : rAD o ad) {b n i bx q : Nat} {A R S : Int32} {x y s h d : Int64} (hi : i < 6200) (hbi : b ≤ i) (hib : i - b < 3100) (hbx : b ≤ bx) (hbx2 : bx < 6200) (hbxb : bx - b < 3100) (hq : gF r 27 = nI q) (hq0 : 0 < q) (hq1 : q ≤ 101)  (hK : V l D (tyl ac) t_Mod_placeAll 0 0 34 [(0, .ref o), (1, .int (nI b)), (2, .int (nI n)), (3, .int (nI (i + 1)))] [] (rM ac o ad (ple (plp (pla1 r q (plw A S (gB r 2 i).toInt64 (h + d))) (i - b) x y) q i b) M0) Q) : V l D (tyl ac) t_Mod_placeAll 0 0 374 [(0, .ref o), (1, .int (nI b)), (2, .int (nI n)), (3, .int (nI i)), (4, .int (nI bx)), (5, .int A), (6, .long x), (8, .long y), (10, .long s), (12, .long h), (14, .long d), (16, .int R), (17, .int S)] [] (rM ac o ad (r) M0) Q := by
  refine V_ar_n d_Mod_placeAll_374 rfl ?_
  refine VR_geta d_Mod_placeAll_375 f_Mod_71 (by decide) ?_
  refine V_ar_n d_Mod_placeAll_378 rfl ?_
  refine VR_geti d_Mod_placeAll_379 f_Mod_160 (by decide) ?_
  refine V_eqi (show _ = nI q from hq) ?_
  refine V_iconst (v := 1) d_Mod_placeAll_382 (by decide) ?_
  refine V_isub d_Mod_placeAll_383 ?_
  refine V_eqi (pk_sub (b := 1) hq0) ?_
  refine V_dup2 d_Mod_placeAll_384 rfl rfl ?_
  refine VR_lald hA d_Mod_placeAll_385 (by omega) ?_
  refine V_iload d_Mod_placeAll_386 rfl ?_
  refine V_if_eq 401 d_Mod_placeAll_388 (by decide) (fun h388 => ?_) (fun h388 => ?_)
  · refine V_iload d_Mod_placeAll_401 rfl ?_
    refine V_if_eq 416 d_Mod_placeAll_403 (by decide) (fun h403 => ?_) (fun h403 => ?_)
    · refine V_lload d_Mod_placeAll_416 rfl ?_
      refine V_lload d_Mod_placeAll_418 rfl ?_
      refine V_ladd d_Mod_placeAll_420 ?_
      refine V_eql (show _ = plw A S (gB r 2 i).toInt64 (h + d) from by rw [plw, if_pos h388, if_pos h403]) ?_
      refine V_ladd d_Mod_placeAll_421 ?_
      refine VR_last hA d_Mod_placeAll_422 (by omega) ?_
      exact PL_423 (r := sL r (vp_updL r.2.2.2 (q - 1) (r.2.2.2 (q - 1) + plw A S (gB r 2 i).toInt64 (h + d)))) hA hi hbi hib hbx hbx2 hbxb hq hq0 hq1 pk_uLs hK
    · refine V_ar_n d_Mod_placeAll_406 rfl ?_
      refine VR_geta d_Mod_placeAll_407 f_Mod_13 (by decide) ?_
      refine V_iload_n d_Mod_placeAll_410 rfl ?_
      refine VR_iald hA d_Mod_placeAll_411 rfl (by omega) (by decide) ?_
      refine V_i2l d_Mod_placeAll_412 ?_
      refine V_goto 421 d_Mod_placeAll_413 (by decide) ?_
      refine V_eql (show _ = plw A S (gB r 2 i).toInt64 (h + d) from by rw [plw, if_pos h388, if_neg h403]) ?_
      refine V_ladd d_Mod_placeAll_421 ?_
      refine VR_last hA d_Mod_placeAll_422 (by omega) ?_
      exact PL_423 (r := sL r (vp_updL r.2.2.2 (q - 1) (r.2.2.2 (q - 1) + plw A S (gB r 2 i).toInt64 (h + d)))) hA hi hbi hib hbx hbx2 hbxb hq hq0 hq1 pk_uLs hK
  · refine V_ar_n d_Mod_placeAll_391 rfl ?_
    refine VR_geta d_Mod_placeAll_392 f_Mod_13 (by decide) ?_
    refine V_iload_n d_Mod_placeAll_395 rfl ?_
    refine VR_iald hA d_Mod_placeAll_396 rfl (by omega) (by decide) ?_
    refine V_i2l d_Mod_placeAll_397 ?_
    refine V_goto 421 d_Mod_placeAll_398 (by decide) ?_
    refine V_eql (show _ = plw A S (gB r 2 i).toInt64 (h + d) from by rw [plw, if_neg h388]) ?_
    refine V_ladd d_Mod_placeAll_421 ?_
    refine VR_last hA d_Mod_placeAll_422 (by omega) ?_
    exact PL_423 (r := sL r (vp_updL r.2.2.2 (q - 1) (r.2.2.2 (q - 1) + plw A S (gB r 2 i).toInt64 (h + d)))) hA hi hbi hib hbx hbx2 hbxb hq hq0 hq1 pk_uLs hK
set_option maxRecDepth 100000 in
set_option maxHeartbeats 4000000 in
theorem PL_348 {l : Launch} {D : va_G} {ac : Nat → ClassId} {o : Nat} {ad : Nat → Nat} {M0 : MP} {Q : Option Value → MP → Prop} {r : RS} (hA : rAD o ad) {b n i bx q : Nat} {A R S : Int32} {x y s h d : Int64} (hi : i < 6200) (hbi : b ≤ i) (hib : i - b < 3100) (hbx : b ≤ bx) (hbx2 : bx < 6200) (hbxb : bx - b < 3100) (hq : gF r 27 = nI q) (hq0 : 0 < q) (hq1 : q ≤ 101)  (hK : V l D (tyl ac) t_Mod_placeAll 0 0 34 [(0, .ref o), (1, .int (nI b)), (2, .int (nI n)), (3, .int (nI (i + 1)))] [] (rM ac o ad (ple (plp (pla1 (pls r R x y (h + d)) q (plw A S (gB r 2 i).toInt64 (h + d))) (i - b) x y) q i b) M0) Q) : V l D (tyl ac) t_Mod_placeAll 0 0 348 [(0, .ref o), (1, .int (nI b)), (2, .int (nI n)), (3, .int (nI i)), (4, .int (nI bx)), (5, .int A), (6, .long x), (8, .long y), (10, .long s), (12, .long h), (14, .long d), (16, .int R), (17, .int S)] [] (rM ac o ad (r) M0) Q := by
  refine V_ar_n d_Mod_placeAll_348 rfl ?_
  refine V_lload d_Mod_placeAll_349 rfl ?_
  refine VR_cv1 d_Mod_placeAll_351 c_Mod_163 (Mod_sized _) ⟨by decide, by decide⟩ rfl (Nat.le_of_ble_eq_true rfl) ?_
  refine V_ar_n d_Mod_placeAll_354 rfl ?_
  refine V_lload d_Mod_placeAll_355 rfl ?_
  refine VR_cv1 d_Mod_placeAll_357 c_Mod_163 (Mod_sized _) ⟨by decide, by decide⟩ rfl (Nat.le_of_ble_eq_true rfl) ?_
  refine V_iload d_Mod_placeAll_360 rfl ?_
  refine V_if_eq 374 d_Mod_placeAll_362 (by decide) (fun h362 => ?_) (fun h362 => ?_)
  · rw [pls, if_pos h362] at hK
    exact PL_374 (r := szd (szd r x) y) hA hi hbi hib hbx hbx2 hbxb hq hq0 hq1 hK
  · refine V_ar_n d_Mod_placeAll_365 rfl ?_
    refine V_lload d_Mod_placeAll_366 rfl ?_
    refine V_lload d_Mod_placeAll_368 rfl ?_
    refine V_ladd d_Mod_placeAll_370 ?_
    refine VR_cv1 d_Mod_placeAll_371 c_Mod_163 (Mod_sized _) ⟨by decide, by decide⟩ rfl (Nat.le_of_ble_eq_true rfl) ?_
    rw [pls, if_neg h362] at hK
    exact PL_374 (r := szd (szd (szd r x) y) (h + d)) hA hi hbi hib hbx hbx2 hbxb hq hq0 hq1 hK
set_option maxRecDepth 100000 in
set_option maxHeartbeats 4000000 in
theorem PL_290 {l : Launch} {D : va_G} {ac : Nat → ClassId} {o : Nat} {ad : Nat → Nat} {M0 : MP} {Q : Option Value → MP → Prop} {r : RS} (hA : rAD o ad) {b n i bx q : Nat} {A R S : Int32} {x y s h d : Int64} (hi : i < 6200) (hbi : b ≤ i) (hib : i - b < 3100) (hbx : b ≤ bx) (hbx2 : bx < 6200) (hbxb : bx - b < 3100) (hq : gF r 27 = nI q) (hq0 : 0 < q) (hq1 : q ≤ 101)  (hK : V l D (tyl ac) t_Mod_placeAll 0 0 34 [(0, .ref o), (1, .int (nI b)), (2, .int (nI n)), (3, .int (nI (i + 1)))] [] (rM ac o ad (ple (plp (pla1 (pls r R (x + (if A = 0 then s else 0)) (ply y A R S s h d) (h + d)) q (plw A S (gB r 2 i).toInt64 (h + d))) (i - b) (x + (if A = 0 then s else 0)) (ply y A R S s h d)) q i b) M0) Q) : V l D (tyl ac) t_Mod_placeAll 0 0 290 [(0, .ref o), (1, .int (nI b)), (2, .int (nI n)), (3, .int (nI i)), (4, .int (nI bx)), (5, .int A), (6, .long x), (8, .long y), (10, .long s), (12, .long h), (14, .long d), (16, .int R), (17, .int S)] [] (rM ac o ad (r) M0) Q := by
  refine V_lload d_Mod_placeAll_290 rfl ?_
  refine V_iload d_Mod_placeAll_292 rfl ?_
  refine V_if_eq 301 d_Mod_placeAll_294 (by decide) (fun hA0 => ?_) (fun hA0 => ?_)
  · refine V_lload d_Mod_placeAll_301 rfl ?_
    refine V_ladd d_Mod_placeAll_303 ?_
    refine V_eql (show _ = x + (if A = 0 then s else 0) from by rw [if_pos hA0]) ?_
    refine V_lstore (lv' := [(6, .long (x + (if A = 0 then s else 0))), (0, .ref o), (1, .int (nI b)), (2, .int (nI n)), (3, .int (nI i)), (4, .int (nI bx)), (5, .int A), (8, .long y), (10, .long s), (12, .long h), (14, .long d), (16, .int R), (17, .int S)]) d_Mod_placeAll_304 (by decide) rfl ?_
    refine V_lload d_Mod_placeAll_306 rfl ?_
    refine V_iload d_Mod_placeAll_308 rfl ?_
    refine V_if_eq 318 d_Mod_placeAll_310 (by decide) (fun h310 => ?_) (fun h310 => ?_)
    · refine V_iload d_Mod_placeAll_318 rfl ?_
      refine V_if_eq 327 d_Mod_placeAll_320 (by decide) (fun h320 => ?_) (fun h320 => ?_)
      · refine V_lload d_Mod_placeAll_327 rfl ?_
        refine V_ladd d_Mod_placeAll_329 ?_
        refine V_lstore (lv' := [(8, .long (y + h)), (6, .long (x + (if A = 0 then s else 0))), (0, .ref o), (1, .int (nI b)), (2, .int (nI n)), (3, .int (nI i)), (4, .int (nI bx)), (5, .int A), (10, .long s), (12, .long h), (14, .long d), (16, .int R), (17, .int S)]) d_Mod_placeAll_330 (by decide) rfl ?_
        refine V_lload d_Mod_placeAll_332 rfl ?_
        refine V_iload d_Mod_placeAll_334 rfl ?_
        refine V_if_eq 344 d_Mod_placeAll_336 (by decide) (fun h336 => ?_) (fun h336 => ?_)
        · refine V_lconst (v := 0) d_Mod_placeAll_344 (by decide) ?_
          refine V_ladd d_Mod_placeAll_345 ?_
          refine V_eql (show _ = ply y A R S s h d from by rw [ply, if_pos hA0, if_pos h320, if_pos h336]) ?_
          refine V_lstore (lv' := [(8, .long (ply y A R S s h d)), (6, .long (x + (if A = 0 then s else 0))), (0, .ref o), (1, .int (nI b)), (2, .int (nI n)), (3, .int (nI i)), (4, .int (nI bx)), (5, .int A), (10, .long s), (12, .long h), (14, .long d), (16, .int R), (17, .int S)]) d_Mod_placeAll_346 (by decide) rfl ?_
          refine V_lv [2, 3, 4, 5, 6, 7, 1, 0, 8, 9, 10, 11, 12] rfl ?_
          exact PL_348 hA hi hbi hib hbx hbx2 hbxb hq hq0 hq1 hK
        · refine V_lload d_Mod_placeAll_339 rfl ?_
          refine V_goto 345 d_Mod_placeAll_341 (by decide) ?_
          refine V_ladd d_Mod_placeAll_345 ?_
          refine V_eql (show _ = ply y A R S s h d from by rw [ply, if_pos hA0, if_pos h320, if_neg h336]) ?_
          refine V_lstore (lv' := [(8, .long (ply y A R S s h d)), (6, .long (x + (if A = 0 then s else 0))), (0, .ref o), (1, .int (nI b)), (2, .int (nI n)), (3, .int (nI i)), (4, .int (nI bx)), (5, .int A), (10, .long s), (12, .long h), (14, .long d), (16, .int R), (17, .int S)]) d_Mod_placeAll_346 (by decide) rfl ?_
          refine V_lv [2, 3, 4, 5, 6, 7, 1, 0, 8, 9, 10, 11, 12] rfl ?_
          exact PL_348 hA hi hbi hib hbx hbx2 hbxb hq hq0 hq1 hK
      · refine V_lconst (v := 0) d_Mod_placeAll_323 (by decide) ?_
        refine V_goto 329 d_Mod_placeAll_324 (by decide) ?_
        refine V_ladd d_Mod_placeAll_329 ?_
        refine V_lstore (lv' := [(8, .long (y + 0)), (6, .long (x + (if A = 0 then s else 0))), (0, .ref o), (1, .int (nI b)), (2, .int (nI n)), (3, .int (nI i)), (4, .int (nI bx)), (5, .int A), (10, .long s), (12, .long h), (14, .long d), (16, .int R), (17, .int S)]) d_Mod_placeAll_330 (by decide) rfl ?_
        refine V_lload d_Mod_placeAll_332 rfl ?_
        refine V_iload d_Mod_placeAll_334 rfl ?_
        refine V_if_eq 344 d_Mod_placeAll_336 (by decide) (fun h336 => ?_) (fun h336 => ?_)
        · refine V_lconst (v := 0) d_Mod_placeAll_344 (by decide) ?_
          refine V_ladd d_Mod_placeAll_345 ?_
          refine V_eql (show _ = ply y A R S s h d from by rw [ply, if_pos hA0, if_neg h320, if_pos h336]) ?_
          refine V_lstore (lv' := [(8, .long (ply y A R S s h d)), (6, .long (x + (if A = 0 then s else 0))), (0, .ref o), (1, .int (nI b)), (2, .int (nI n)), (3, .int (nI i)), (4, .int (nI bx)), (5, .int A), (10, .long s), (12, .long h), (14, .long d), (16, .int R), (17, .int S)]) d_Mod_placeAll_346 (by decide) rfl ?_
          refine V_lv [2, 3, 4, 5, 6, 7, 1, 0, 8, 9, 10, 11, 12] rfl ?_
          exact PL_348 hA hi hbi hib hbx hbx2 hbxb hq hq0 hq1 hK
        · refine V_lload d_Mod_placeAll_339 rfl ?_
          refine V_goto 345 d_Mod_placeAll_341 (by decide) ?_
          refine V_ladd d_Mod_placeAll_345 ?_
          refine V_eql (show _ = ply y A R S s h d from by rw [ply, if_pos hA0, if_neg h320, if_neg h336]) ?_
          refine V_lstore (lv' := [(8, .long (ply y A R S s h d)), (6, .long (x + (if A = 0 then s else 0))), (0, .ref o), (1, .int (nI b)), (2, .int (nI n)), (3, .int (nI i)), (4, .int (nI bx)), (5, .int A), (10, .long s), (12, .long h), (14, .long d), (16, .int R), (17, .int S)]) d_Mod_placeAll_346 (by decide) rfl ?_
          refine V_lv [2, 3, 4, 5, 6, 7, 1, 0, 8, 9, 10, 11, 12] rfl ?_
          exact PL_348 hA hi hbi hib hbx hbx2 hbxb hq hq0 hq1 hK
    · exact absurd hA0 h310
  · refine V_lconst (v := 0) d_Mod_placeAll_297 (by decide) ?_
    refine V_goto 303 d_Mod_placeAll_298 (by decide) ?_
    refine V_ladd d_Mod_placeAll_303 ?_
    refine V_eql (show _ = x + (if A = 0 then s else 0) from by rw [if_neg hA0]) ?_
    refine V_lstore (lv' := [(6, .long (x + (if A = 0 then s else 0))), (0, .ref o), (1, .int (nI b)), (2, .int (nI n)), (3, .int (nI i)), (4, .int (nI bx)), (5, .int A), (8, .long y), (10, .long s), (12, .long h), (14, .long d), (16, .int R), (17, .int S)]) d_Mod_placeAll_304 (by decide) rfl ?_
    refine V_lload d_Mod_placeAll_306 rfl ?_
    refine V_iload d_Mod_placeAll_308 rfl ?_
    refine V_if_eq 318 d_Mod_placeAll_310 (by decide) (fun h310 => ?_) (fun h310 => ?_)
    · exact absurd h310 hA0
    · refine V_lload d_Mod_placeAll_313 rfl ?_
      refine V_goto 329 d_Mod_placeAll_315 (by decide) ?_
      refine V_ladd d_Mod_placeAll_329 ?_
      refine V_lstore (lv' := [(8, .long (y + s)), (6, .long (x + (if A = 0 then s else 0))), (0, .ref o), (1, .int (nI b)), (2, .int (nI n)), (3, .int (nI i)), (4, .int (nI bx)), (5, .int A), (10, .long s), (12, .long h), (14, .long d), (16, .int R), (17, .int S)]) d_Mod_placeAll_330 (by decide) rfl ?_
      refine V_lload d_Mod_placeAll_332 rfl ?_
      refine V_iload d_Mod_placeAll_334 rfl ?_
      refine V_if_eq 344 d_Mod_placeAll_336 (by decide) (fun h336 => ?_) (fun h336 => ?_)
      · refine V_lconst (v := 0) d_Mod_placeAll_344 (by decide) ?_
        refine V_ladd d_Mod_placeAll_345 ?_
        refine V_eql (show _ = ply y A R S s h d from by rw [ply, if_neg hA0, if_pos h336]) ?_
        refine V_lstore (lv' := [(8, .long (ply y A R S s h d)), (6, .long (x + (if A = 0 then s else 0))), (0, .ref o), (1, .int (nI b)), (2, .int (nI n)), (3, .int (nI i)), (4, .int (nI bx)), (5, .int A), (10, .long s), (12, .long h), (14, .long d), (16, .int R), (17, .int S)]) d_Mod_placeAll_346 (by decide) rfl ?_
        refine V_lv [2, 3, 4, 5, 6, 7, 1, 0, 8, 9, 10, 11, 12] rfl ?_
        exact PL_348 hA hi hbi hib hbx hbx2 hbxb hq hq0 hq1 hK
      · refine V_lload d_Mod_placeAll_339 rfl ?_
        refine V_goto 345 d_Mod_placeAll_341 (by decide) ?_
        refine V_ladd d_Mod_placeAll_345 ?_
        refine V_eql (show _ = ply y A R S s h d from by rw [ply, if_neg hA0, if_neg h336]) ?_
        refine V_lstore (lv' := [(8, .long (ply y A R S s h d)), (6, .long (x + (if A = 0 then s else 0))), (0, .ref o), (1, .int (nI b)), (2, .int (nI n)), (3, .int (nI i)), (4, .int (nI bx)), (5, .int A), (10, .long s), (12, .long h), (14, .long d), (16, .int R), (17, .int S)]) d_Mod_placeAll_346 (by decide) rfl ?_
        refine V_lv [2, 3, 4, 5, 6, 7, 1, 0, 8, 9, 10, 11, 12] rfl ?_
        exact PL_348 hA hi hbi hib hbx hbx2 hbxb hq hq0 hq1 hK
set_option maxRecDepth 100000 in
set_option maxHeartbeats 4000000 in
theorem PL_273 {l : Launch} {D : va_G} {ac : Nat → ClassId} {o : Nat} {ad : Nat → Nat} {M0 : MP} {Q : Option Value → MP → Prop} {r : RS} (hA : rAD o ad) {b n i bx q : Nat} {A R : Int32} {x y s h d : Int64} (hi : i < 6200) (hbi : b ≤ i) (hib : i - b < 3100) (hbx : b ≤ bx) (hbx2 : bx < 6200) (hbxb : bx - b < 3100) (hq : gF r 27 = nI q) (hq0 : 0 < q) (hq1 : q ≤ 101)  (hK : V l D (tyl ac) t_Mod_placeAll 0 0 34 [(0, .ref o), (1, .int (nI b)), (2, .int (nI n)), (3, .int (nI (i + 1)))] [] (rM ac o ad (ple (plp (pla1 (pls r R (x + (if A = 0 then s else 0)) (ply y A R (rlz r i 3) s h d) (h + d)) q (plw A (rlz r i 3) (gB r 2 i).toInt64 (h + d))) (i - b) (x + (if A = 0 then s else 0)) (ply y A R (rlz r i 3) s h d)) q i b) M0) Q) : V l D (tyl ac) t_Mod_placeAll 0 0 273 [(0, .ref o), (1, .int (nI b)), (2, .int (nI n)), (3, .int (nI i)), (4, .int (nI bx)), (5, .int A), (6, .long x), (8, .long y), (10, .long s), (12, .long h), (14, .long d), (16, .int R)] [] (rM ac o ad (r) M0) Q := by
  refine V_ar_n d_Mod_placeAll_273 rfl ?_
  refine VR_geta d_Mod_placeAll_274 f_Mod_7 (by decide) ?_
  refine V_iload_n d_Mod_placeAll_277 rfl ?_
  refine VR_iald hA d_Mod_placeAll_278 rfl (by omega) (by decide) ?_
  refine V_iconst (v := 3) d_Mod_placeAll_279 (by decide) ?_
  refine V_icmp_ne 287 d_Mod_placeAll_280 (by decide) (fun h280 => ?_) (fun h280 => ?_)
  · refine V_iconst (v := 0) d_Mod_placeAll_287 (by decide) ?_
    refine V_eqi (show _ = rlz r i 3 from (if_neg h280).symm) ?_
    refine V_istore (lv' := [(17, .int (rlz r i 3)), (0, .ref o), (1, .int (nI b)), (2, .int (nI n)), (3, .int (nI i)), (4, .int (nI bx)), (5, .int A), (6, .long x), (8, .long y), (10, .long s), (12, .long h), (14, .long d), (16, .int R)]) d_Mod_placeAll_288 (by decide) rfl ?_
    refine V_lv [1, 2, 3, 4, 5, 6, 7, 8, 9, 10, 11, 12, 0] rfl ?_
    exact PL_290 hA hi hbi hib hbx hbx2 hbxb hq hq0 hq1 hK
  · refine V_iconst (v := 1) d_Mod_placeAll_283 (by decide) ?_
    refine V_goto 288 d_Mod_placeAll_284 (by decide) ?_
    refine V_eqi (show _ = rlz r i 3 from (if_pos (Classical.not_not.mp h280)).symm) ?_
    refine V_istore (lv' := [(17, .int (rlz r i 3)), (0, .ref o), (1, .int (nI b)), (2, .int (nI n)), (3, .int (nI i)), (4, .int (nI bx)), (5, .int A), (6, .long x), (8, .long y), (10, .long s), (12, .long h), (14, .long d), (16, .int R)]) d_Mod_placeAll_288 (by decide) rfl ?_
    refine V_lv [1, 2, 3, 4, 5, 6, 7, 8, 9, 10, 11, 12, 0] rfl ?_
    exact PL_290 hA hi hbi hib hbx hbx2 hbxb hq hq0 hq1 hK
set_option maxRecDepth 100000 in
set_option maxHeartbeats 4000000 in
theorem PL_256 {l : Launch} {D : va_G} {ac : Nat → ClassId} {o : Nat} {ad : Nat → Nat} {M0 : MP} {Q : Option Value → MP → Prop} {r : RS} (hA : rAD o ad) {b n i bx q : Nat} {A : Int32} {x y s h d : Int64} (hi : i < 6200) (hbi : b ≤ i) (hib : i - b < 3100) (hbx : b ≤ bx) (hbx2 : bx < 6200) (hbxb : bx - b < 3100) (hq : gF r 27 = nI q) (hq0 : 0 < q) (hq1 : q ≤ 101)  (hK : V l D (tyl ac) t_Mod_placeAll 0 0 34 [(0, .ref o), (1, .int (nI b)), (2, .int (nI n)), (3, .int (nI (i + 1)))] [] (rM ac o ad (ple (plp (pla1 (pls r (rlz r i 2) (x + (if A = 0 then s else 0)) (ply y A (rlz r i 2) (rlz r i 3) s h d) (h + d)) q (plw A (rlz r i 3) (gB r 2 i).toInt64 (h + d))) (i - b) (x + (if A = 0 then s else 0)) (ply y A (rlz r i 2) (rlz r i 3) s h d)) q i b) M0) Q) : V l D (tyl ac) t_Mod_placeAll 0 0 256 [(0, .ref o), (1, .int (nI b)), (2, .int (nI n)), (3, .int (nI i)), (4, .int (nI bx)), (5, .int A), (6, .long x), (8, .long y), (10, .long s), (12, .long h), (14, .long d)] [] (rM ac o ad (r) M0) Q := by
  refine V_ar_n d_Mod_placeAll_256 rfl ?_
  refine VR_geta d_Mod_placeAll_257 f_Mod_7 (by decide) ?_
  refine V_iload_n d_Mod_placeAll_260 rfl ?_
  refine VR_iald hA d_Mod_placeAll_261 rfl (by omega) (by decide) ?_
  refine V_iconst (v := 2) d_Mod_placeAll_262 (by decide) ?_
  refine V_icmp_ne 270 d_Mod_placeAll_263 (by decide) (fun h263 => ?_) (fun h263 => ?_)
  · refine V_iconst (v := 0) d_Mod_placeAll_270 (by decide) ?_
    refine V_eqi (show _ = rlz r i 2 from (if_neg h263).symm) ?_
    refine V_istore (lv' := [(16, .int (rlz r i 2)), (0, .ref o), (1, .int (nI b)), (2, .int (nI n)), (3, .int (nI i)), (4, .int (nI bx)), (5, .int A), (6, .long x), (8, .long y), (10, .long s), (12, .long h), (14, .long d)]) d_Mod_placeAll_271 (by decide) rfl ?_
    refine V_lv [1, 2, 3, 4, 5, 6, 7, 8, 9, 10, 11, 0] rfl ?_
    exact PL_273 hA hi hbi hib hbx hbx2 hbxb hq hq0 hq1 hK
  · refine V_iconst (v := 1) d_Mod_placeAll_266 (by decide) ?_
    refine V_goto 271 d_Mod_placeAll_267 (by decide) ?_
    refine V_eqi (show _ = rlz r i 2 from (if_pos (Classical.not_not.mp h263)).symm) ?_
    refine V_istore (lv' := [(16, .int (rlz r i 2)), (0, .ref o), (1, .int (nI b)), (2, .int (nI n)), (3, .int (nI i)), (4, .int (nI bx)), (5, .int A), (6, .long x), (8, .long y), (10, .long s), (12, .long h), (14, .long d)]) d_Mod_placeAll_271 (by decide) rfl ?_
    refine V_lv [1, 2, 3, 4, 5, 6, 7, 8, 9, 10, 11, 0] rfl ?_
    exact PL_273 hA hi hbi hib hbx hbx2 hbxb hq hq0 hq1 hK
set_option maxRecDepth 100000 in
set_option maxHeartbeats 4000000 in
theorem PL_225 {l : Launch} {D : va_G} {ac : Nat → ClassId} {o : Nat} {ad : Nat → Nat} {M0 : MP} {Q : Option Value → MP → Prop} {r : RS} (hA : rAD o ad) {b n i bx q : Nat} {A : Int32} {x y s h : Int64} (hi : i < 6200) (hbi : b ≤ i) (hib : i - b < 3100) (hbx : b ≤ bx) (hbx2 : bx < 6200) (hbxb : bx - b < 3100) (hq : gF r 27 = nI q) (hq0 : 0 < q) (hq1 : q ≤ 101)  (hK : V l D (tyl ac) t_Mod_placeAll 0 0 34 [(0, .ref o), (1, .int (nI b)), (2, .int (nI n)), (3, .int (nI (i + 1)))] [] (rM ac o ad (ple (plp (pla1 (pls r (rlz r i 2) (x + (if A = 0 then s else 0)) (ply y A (rlz r i 2) (rlz r i 3) s h (rsel r 4 i bx).toInt64) (h + (rsel r 4 i bx).toInt64)) q (plw A (rlz r i 3) (gB r 2 i).toInt64 (h + (rsel r 4 i bx).toInt64))) (i - b) (x + (if A = 0 then s else 0)) (ply y A (rlz r i 2) (rlz r i 3) s h (rsel r 4 i bx).toInt64)) q i b) M0) Q) : V l D (tyl ac) t_Mod_placeAll 0 0 225 [(0, .ref o), (1, .int (nI b)), (2, .int (nI n)), (3, .int (nI i)), (4, .int (nI bx)), (5, .int A), (6, .long x), (8, .long y), (10, .long s), (12, .long h)] [] (rM ac o ad (r) M0) Q := by
  refine V_ar_n d_Mod_placeAll_225 rfl ?_
  refine VR_geta d_Mod_placeAll_226 f_Mod_19 (by decide) ?_
  refine V_iload_n d_Mod_placeAll_229 rfl ?_
  refine VR_iald hA d_Mod_placeAll_230 rfl (by omega) (by decide) ?_
  refine V_ldc d_Mod_placeAll_231 k_Mod_115 ?_
  refine V_icmp_ne 247 d_Mod_placeAll_233 (by decide) (fun h233 => ?_) (fun h233 => ?_)
  · refine V_ar_n d_Mod_placeAll_247 rfl ?_
    refine VR_geta d_Mod_placeAll_248 f_Mod_19 (by decide) ?_
    refine V_iload_n d_Mod_placeAll_251 rfl ?_
    refine VR_iald hA d_Mod_placeAll_252 rfl (by omega) (by decide) ?_
    refine V_i2l d_Mod_placeAll_253 ?_
    refine V_eql (show _ = (rsel r 4 i bx).toInt64 from by rw [rsel, if_neg h233]) ?_
    refine V_lstore (lv' := [(14, .long ((rsel r 4 i bx).toInt64)), (0, .ref o), (1, .int (nI b)), (2, .int (nI n)), (3, .int (nI i)), (4, .int (nI bx)), (5, .int A), (6, .long x), (8, .long y), (10, .long s), (12, .long h)]) d_Mod_placeAll_254 (by decide) rfl ?_
    refine V_lv [1, 2, 3, 4, 5, 6, 7, 8, 9, 10, 0] rfl ?_
    exact PL_256 hA hi hbi hib hbx hbx2 hbxb hq hq0 hq1 hK
  · refine V_ar_n d_Mod_placeAll_236 rfl ?_
    refine VR_geta d_Mod_placeAll_237 f_Mod_19 (by decide) ?_
    refine V_iload d_Mod_placeAll_240 rfl ?_
    refine VR_iald hA d_Mod_placeAll_242 rfl (by omega) (by decide) ?_
    refine V_i2l d_Mod_placeAll_243 ?_
    refine V_goto 254 d_Mod_placeAll_244 (by decide) ?_
    refine V_eql (show _ = (rsel r 4 i bx).toInt64 from by rw [rsel, if_pos (Classical.not_not.mp h233)]) ?_
    refine V_lstore (lv' := [(14, .long ((rsel r 4 i bx).toInt64)), (0, .ref o), (1, .int (nI b)), (2, .int (nI n)), (3, .int (nI i)), (4, .int (nI bx)), (5, .int A), (6, .long x), (8, .long y), (10, .long s), (12, .long h)]) d_Mod_placeAll_254 (by decide) rfl ?_
    refine V_lv [1, 2, 3, 4, 5, 6, 7, 8, 9, 10, 0] rfl ?_
    exact PL_256 hA hi hbi hib hbx hbx2 hbxb hq hq0 hq1 hK
set_option maxRecDepth 100000 in
set_option maxHeartbeats 4000000 in
theorem PL_194 {l : Launch} {D : va_G} {ac : Nat → ClassId} {o : Nat} {ad : Nat → Nat} {M0 : MP} {Q : Option Value → MP → Prop} {r : RS} (hA : rAD o ad) {b n i bx q : Nat} {A : Int32} {x y s : Int64} (hi : i < 6200) (hbi : b ≤ i) (hib : i - b < 3100) (hbx : b ≤ bx) (hbx2 : bx < 6200) (hbxb : bx - b < 3100) (hq : gF r 27 = nI q) (hq0 : 0 < q) (hq1 : q ≤ 101)  (hK : V l D (tyl ac) t_Mod_placeAll 0 0 34 [(0, .ref o), (1, .int (nI b)), (2, .int (nI n)), (3, .int (nI (i + 1)))] [] (rM ac o ad (ple (plp (pla1 (pls r (rlz r i 2) (x + (if A = 0 then s else 0)) (ply y A (rlz r i 2) (rlz r i 3) s (rsel r 3 i bx).toInt64 (rsel r 4 i bx).toInt64) ((rsel r 3 i bx).toInt64 + (rsel r 4 i bx).toInt64)) q (plw A (rlz r i 3) (gB r 2 i).toInt64 ((rsel r 3 i bx).toInt64 + (rsel r 4 i bx).toInt64))) (i - b) (x + (if A = 0 then s else 0)) (ply y A (rlz r i 2) (rlz r i 3) s (rsel r 3 i bx).toInt64 (rsel r 4 i bx).toInt64)) q i b) M0) Q) : V l D (tyl ac) t_Mod_placeAll 0 0 194 [(0, .ref o), (1, .int (nI b)), (2, .int (nI n)), (3, .int (nI i)), (4, .int (nI bx)), (5, .int A), (6, .long x), (8, .long y), (10, .long s)] [] (rM ac o ad (r) M0) Q := by
  refine V_ar_n d_Mod_placeAll_194 rfl ?_
  refine VR_geta d_Mod_placeAll_195 f_Mod_16 (by decide) ?_
  refine V_iload_n d_Mod_placeAll_198 rfl ?_
  refine VR_iald hA d_Mod_placeAll_199 rfl (by omega) (by decide) ?_
  refine V_ldc d_Mod_placeAll_200 k_Mod_115 ?_
  refine V_icmp_ne 216 d_Mod_placeAll_202 (by decide) (fun h202 => ?_) (fun h202 => ?_)
  · refine V_ar_n d_Mod_placeAll_216 rfl ?_
    refine VR_geta d_Mod_placeAll_217 f_Mod_16 (by decide) ?_
    refine V_iload_n d_Mod_placeAll_220 rfl ?_
    refine VR_iald hA d_Mod_placeAll_221 rfl (by omega) (by decide) ?_
    refine V_i2l d_Mod_placeAll_222 ?_
    refine V_eql (show _ = (rsel r 3 i bx).toInt64 from by rw [rsel, if_neg h202]) ?_
    refine V_lstore (lv' := [(12, .long ((rsel r 3 i bx).toInt64)), (0, .ref o), (1, .int (nI b)), (2, .int (nI n)), (3, .int (nI i)), (4, .int (nI bx)), (5, .int A), (6, .long x), (8, .long y), (10, .long s)]) d_Mod_placeAll_223 (by decide) rfl ?_
    refine V_lv [1, 2, 3, 4, 5, 6, 7, 8, 9, 0] rfl ?_
    exact PL_225 hA hi hbi hib hbx hbx2 hbxb hq hq0 hq1 hK
  · refine V_ar_n d_Mod_placeAll_205 rfl ?_
    refine VR_geta d_Mod_placeAll_206 f_Mod_16 (by decide) ?_
    refine V_iload d_Mod_placeAll_209 rfl ?_
    refine VR_iald hA d_Mod_placeAll_211 rfl (by omega) (by decide) ?_
    refine V_i2l d_Mod_placeAll_212 ?_
    refine V_goto 223 d_Mod_placeAll_213 (by decide) ?_
    refine V_eql (show _ = (rsel r 3 i bx).toInt64 from by rw [rsel, if_pos (Classical.not_not.mp h202)]) ?_
    refine V_lstore (lv' := [(12, .long ((rsel r 3 i bx).toInt64)), (0, .ref o), (1, .int (nI b)), (2, .int (nI n)), (3, .int (nI i)), (4, .int (nI bx)), (5, .int A), (6, .long x), (8, .long y), (10, .long s)]) d_Mod_placeAll_223 (by decide) rfl ?_
    refine V_lv [1, 2, 3, 4, 5, 6, 7, 8, 9, 0] rfl ?_
    exact PL_225 hA hi hbi hib hbx hbx2 hbxb hq hq0 hq1 hK
set_option maxRecDepth 100000 in
set_option maxHeartbeats 4000000 in
theorem PL_173 {l : Launch} {D : va_G} {ac : Nat → ClassId} {o : Nat} {ad : Nat → Nat} {M0 : MP} {Q : Option Value → MP → Prop} {r : RS} (hA : rAD o ad) {b n i bx q : Nat} {A : Int32} {x y : Int64} (hi : i < 6200) (hbi : b ≤ i) (hib : i - b < 3100) (hbx : b ≤ bx) (hbx2 : bx < 6200) (hbxb : bx - b < 3100) (hq : gF r 27 = nI q) (hq0 : 0 < q) (hq1 : q ≤ 101)  (hK : V l D (tyl ac) t_Mod_placeAll 0 0 34 [(0, .ref o), (1, .int (nI b)), (2, .int (nI n)), (3, .int (nI (i + 1)))] [] (rM ac o ad (ple (plp (pla1 (pls r (rlz r i 2) (x + (if A = 0 then (cls1 r i) else 0)) (ply y A (rlz r i 2) (rlz r i 3) (cls1 r i) (rsel r 3 i bx).toInt64 (rsel r 4 i bx).toInt64) ((rsel r 3 i bx).toInt64 + (rsel r 4 i bx).toInt64)) q (plw A (rlz r i 3) (gB r 2 i).toInt64 ((rsel r 3 i bx).toInt64 + (rsel r 4 i bx).toInt64))) (i - b) (x + (if A = 0 then (cls1 r i) else 0)) (ply y A (rlz r i 2) (rlz r i 3) (cls1 r i) (rsel r 3 i bx).toInt64 (rsel r 4 i bx).toInt64)) q i b) M0) Q) : V l D (tyl ac) t_Mod_placeAll 0 0 173 [(0, .ref o), (1, .int (nI b)), (2, .int (nI n)), (3, .int (nI i)), (4, .int (nI bx)), (5, .int A), (6, .long x), (8, .long y)] [] (rM ac o ad (r) M0) Q := by
  refine V_ar_n d_Mod_placeAll_173 rfl ?_
  refine V_iload_n d_Mod_placeAll_174 rfl ?_
  refine VR_ci1 d_Mod_placeAll_175 c_Mod_116 (Mod_isBox hA hi) ⟨by decide, by decide⟩ rfl (Nat.le_of_ble_eq_true rfl) ?_
  refine V_if_eq 191 d_Mod_placeAll_178 (by decide) (fun h178 => ?_) (fun h178 => ?_)
  · refine V_lconst (v := 0) d_Mod_placeAll_191 (by decide) ?_
    refine V_eql (show _ = cls1 r i from (if_pos h178).symm) ?_
    refine V_lstore (lv' := [(10, .long (cls1 r i)), (0, .ref o), (1, .int (nI b)), (2, .int (nI n)), (3, .int (nI i)), (4, .int (nI bx)), (5, .int A), (6, .long x), (8, .long y)]) d_Mod_placeAll_192 (by decide) rfl ?_
    refine V_lv [1, 2, 3, 4, 5, 6, 7, 8, 0] rfl ?_
    exact PL_194 hA hi hbi hib hbx hbx2 hbxb hq hq0 hq1 hK
  · refine V_ar_n d_Mod_placeAll_181 rfl ?_
    refine VR_geta d_Mod_placeAll_182 f_Mod_22 (by decide) ?_
    refine V_iload_n d_Mod_placeAll_185 rfl ?_
    refine VR_iald hA d_Mod_placeAll_186 rfl (by omega) (by decide) ?_
    refine V_i2l d_Mod_placeAll_187 ?_
    refine V_goto 192 d_Mod_placeAll_188 (by decide) ?_
    refine V_eql (show _ = cls1 r i from (if_neg h178).symm) ?_
    refine V_lstore (lv' := [(10, .long (cls1 r i)), (0, .ref o), (1, .int (nI b)), (2, .int (nI n)), (3, .int (nI i)), (4, .int (nI bx)), (5, .int A), (6, .long x), (8, .long y)]) d_Mod_placeAll_192 (by decide) rfl ?_
    refine V_lv [1, 2, 3, 4, 5, 6, 7, 8, 0] rfl ?_
    exact PL_194 hA hi hbi hib hbx hbx2 hbxb hq hq0 hq1 hK
set_option maxRecDepth 100000 in
set_option maxHeartbeats 4000000 in
theorem PL_142 {l : Launch} {D : va_G} {ac : Nat → ClassId} {o : Nat} {ad : Nat → Nat} {M0 : MP} {Q : Option Value → MP → Prop} {r : RS} (hA : rAD o ad) {b n i bx q : Nat} {A : Int32} {x : Int64} (hi : i < 6200) (hbi : b ≤ i) (hib : i - b < 3100) (hbx : b ≤ bx) (hbx2 : bx < 6200) (hbxb : bx - b < 3100) (hq : gF r 27 = nI q) (hq0 : 0 < q) (hq1 : q ≤ 101)  (hK : V l D (tyl ac) t_Mod_placeAll 0 0 34 [(0, .ref o), (1, .int (nI b)), (2, .int (nI n)), (3, .int (nI (i + 1)))] [] (rM ac o ad (ple (plp (pla1 (pls r (rlz r i 2) (x + (if A = 0 then (cls1 r i) else 0)) (ply (ply0 r q b bx A) A (rlz r i 2) (rlz r i 3) (cls1 r i) (rsel r 3 i bx).toInt64 (rsel r 4 i bx).toInt64) ((rsel r 3 i bx).toInt64 + (rsel r 4 i bx).toInt64)) q (plw A (rlz r i 3) (gB r 2 i).toInt64 ((rsel r 3 i bx).toInt64 + (rsel r 4 i bx).toInt64))) (i - b) (x + (if A = 0 then (cls1 r i) else 0)) (ply (ply0 r q b bx A) A (rlz r i 2) (rlz r i 3) (cls1 r i) (rsel r 3 i bx).toInt64 (rsel r 4 i bx).toInt64)) q i b) M0) Q) : V l D (tyl ac) t_Mod_placeAll 0 0 142 [(0, .ref o), (1, .int (nI b)), (2, .int (nI n)), (3, .int (nI i)), (4, .int (nI bx)), (5, .int A), (6, .long x)] [] (rM ac o ad (r) M0) Q := by
  refine V_iload d_Mod_placeAll_142 rfl ?_
  refine V_if_eq 160 d_Mod_placeAll_144 (by decide) (fun h144 => ?_) (fun h144 => ?_)
  · refine V_ar_n d_Mod_placeAll_160 rfl ?_
    refine VR_geta d_Mod_placeAll_161 f_Mod_71 (by decide) ?_
    refine V_ar_n d_Mod_placeAll_164 rfl ?_
    refine VR_geti d_Mod_placeAll_165 f_Mod_160 (by decide) ?_
    refine V_eqi (show _ = nI q from hq) ?_
    refine V_iconst (v := 1) d_Mod_placeAll_168 (by decide) ?_
    refine V_isub d_Mod_placeAll_169 ?_
    refine V_eqi (pk_sub (b := 1) hq0) ?_
    refine VR_lald hA d_Mod_placeAll_170 (by omega) ?_
    refine V_eql (show _ = ply0 r q b bx A from (if_pos h144).symm) ?_
    refine V_lstore (lv' := [(8, .long (ply0 r q b bx A)), (0, .ref o), (1, .int (nI b)), (2, .int (nI n)), (3, .int (nI i)), (4, .int (nI bx)), (5, .int A), (6, .long x)]) d_Mod_placeAll_171 (by decide) rfl ?_
    refine V_lv [1, 2, 3, 4, 5, 6, 7, 0] rfl ?_
    exact PL_173 hA hi hbi hib hbx hbx2 hbxb hq hq0 hq1 hK
  · refine V_ar_n d_Mod_placeAll_147 rfl ?_
    refine VR_geta d_Mod_placeAll_148 f_Mod_65 (by decide) ?_
    refine V_iload d_Mod_placeAll_151 rfl ?_
    refine V_iload_n d_Mod_placeAll_153 rfl ?_
    refine V_isub d_Mod_placeAll_154 ?_
    refine V_eqi (pk_sub hbx) ?_
    refine VR_iald hA d_Mod_placeAll_155 rfl (by omega) (by decide) ?_
    refine V_i2l d_Mod_placeAll_156 ?_
    refine V_goto 171 d_Mod_placeAll_157 (by decide) ?_
    refine V_eql (show _ = ply0 r q b bx A from (if_neg h144).symm) ?_
    refine V_lstore (lv' := [(8, .long (ply0 r q b bx A)), (0, .ref o), (1, .int (nI b)), (2, .int (nI n)), (3, .int (nI i)), (4, .int (nI bx)), (5, .int A), (6, .long x)]) d_Mod_placeAll_171 (by decide) rfl ?_
    refine V_lv [1, 2, 3, 4, 5, 6, 7, 0] rfl ?_
    exact PL_173 hA hi hbi hib hbx hbx2 hbxb hq hq0 hq1 hK
set_option maxRecDepth 100000 in
set_option maxHeartbeats 4000000 in
theorem PL_111 {l : Launch} {D : va_G} {ac : Nat → ClassId} {o : Nat} {ad : Nat → Nat} {M0 : MP} {Q : Option Value → MP → Prop} {r : RS} (hA : rAD o ad) {b n i bx q : Nat} {A : Int32} (hi : i < 6200) (hbi : b ≤ i) (hib : i - b < 3100) (hbx : b ≤ bx) (hbx2 : bx < 6200) (hbxb : bx - b < 3100) (hq : gF r 27 = nI q) (hq0 : 0 < q) (hq1 : q ≤ 101)  (hK : V l D (tyl ac) t_Mod_placeAll 0 0 34 [(0, .ref o), (1, .int (nI b)), (2, .int (nI n)), (3, .int (nI (i + 1)))] [] (rM ac o ad (ple (plp (pla1 (pls r (rlz r i 2) ((if A = 0 then (gB r 25 (bx - b)).toInt64 else r.2.2.2 (q - 1)) + (if A = 0 then (cls1 r i) else 0)) (ply (ply0 r q b bx A) A (rlz r i 2) (rlz r i 3) (cls1 r i) (rsel r 3 i bx).toInt64 (rsel r 4 i bx).toInt64) ((rsel r 3 i bx).toInt64 + (rsel r 4 i bx).toInt64)) q (plw A (rlz r i 3) (gB r 2 i).toInt64 ((rsel r 3 i bx).toInt64 + (rsel r 4 i bx).toInt64))) (i - b) ((if A = 0 then (gB r 25 (bx - b)).toInt64 else r.2.2.2 (q - 1)) + (if A = 0 then (cls1 r i) else 0)) (ply (ply0 r q b bx A) A (rlz r i 2) (rlz r i 3) (cls1 r i) (rsel r 3 i bx).toInt64 (rsel r 4 i bx).toInt64)) q i b) M0) Q) : V l D (tyl ac) t_Mod_placeAll 0 0 111 [(0, .ref o), (1, .int (nI b)), (2, .int (nI n)), (3, .int (nI i)), (4, .int (nI bx)), (5, .int A)] [] (rM ac o ad (r) M0) Q := by
  refine V_iload d_Mod_placeAll_111 rfl ?_
  refine V_if_eq 130 d_Mod_placeAll_113 (by decide) (fun h113 => ?_) (fun h113 => ?_)
  · refine V_ar_n d_Mod_placeAll_130 rfl ?_
    refine VR_geta d_Mod_placeAll_131 f_Mod_62 (by decide) ?_
    refine V_iload d_Mod_placeAll_134 rfl ?_
    refine V_iload_n d_Mod_placeAll_136 rfl ?_
    refine V_isub d_Mod_placeAll_137 ?_
    refine V_eqi (pk_sub hbx) ?_
    refine VR_iald hA d_Mod_placeAll_138 rfl (by omega) (by decide) ?_
    refine V_i2l d_Mod_placeAll_139 ?_
    refine V_eql (show _ = if A = 0 then (gB r 25 (bx - b)).toInt64 else r.2.2.2 (q - 1) from (if_pos h113).symm) ?_
    refine V_lstore (lv' := [(6, .long (if A = 0 then (gB r 25 (bx - b)).toInt64 else r.2.2.2 (q - 1))), (0, .ref o), (1, .int (nI b)), (2, .int (nI n)), (3, .int (nI i)), (4, .int (nI bx)), (5, .int A)]) d_Mod_placeAll_140 (by decide) rfl ?_
    refine V_lv [1, 2, 3, 4, 5, 6, 0] rfl ?_
    exact PL_142 hA hi hbi hib hbx hbx2 hbxb hq hq0 hq1 hK
  · refine V_ar_n d_Mod_placeAll_116 rfl ?_
    refine VR_geta d_Mod_placeAll_117 f_Mod_71 (by decide) ?_
    refine V_ar_n d_Mod_placeAll_120 rfl ?_
    refine VR_geti d_Mod_placeAll_121 f_Mod_160 (by decide) ?_
    refine V_eqi (show _ = nI q from hq) ?_
    refine V_iconst (v := 1) d_Mod_placeAll_124 (by decide) ?_
    refine V_isub d_Mod_placeAll_125 ?_
    refine V_eqi (pk_sub (b := 1) hq0) ?_
    refine VR_lald hA d_Mod_placeAll_126 (by omega) ?_
    refine V_goto 140 d_Mod_placeAll_127 (by decide) ?_
    refine V_eql (show _ = if A = 0 then (gB r 25 (bx - b)).toInt64 else r.2.2.2 (q - 1) from (if_neg h113).symm) ?_
    refine V_lstore (lv' := [(6, .long (if A = 0 then (gB r 25 (bx - b)).toInt64 else r.2.2.2 (q - 1))), (0, .ref o), (1, .int (nI b)), (2, .int (nI n)), (3, .int (nI i)), (4, .int (nI bx)), (5, .int A)]) d_Mod_placeAll_140 (by decide) rfl ?_
    refine V_lv [1, 2, 3, 4, 5, 6, 0] rfl ?_
    exact PL_142 hA hi hbi hib hbx hbx2 hbxb hq hq0 hq1 hK
set_option maxRecDepth 100000 in
set_option maxHeartbeats 4000000 in
theorem PL_93 {l : Launch} {D : va_G} {ac : Nat → ClassId} {o : Nat} {ad : Nat → Nat} {M0 : MP} {Q : Option Value → MP → Prop} {r : RS} (hA : rAD o ad) {b n i bx q : Nat}  (hi : i < 6200) (hbi : b ≤ i) (hib : i - b < 3100) (hbx : b ≤ bx) (hbx2 : bx < 6200) (hbxb : bx - b < 3100) (hq : gF r 27 = nI q) (hq0 : 0 < q) (hq1 : q ≤ 101)  (hK : V l D (tyl ac) t_Mod_placeAll 0 0 34 [(0, .ref o), (1, .int (nI b)), (2, .int (nI n)), (3, .int (nI (i + 1)))] [] (rM ac o ad (plc r q i b bx) M0) Q) : V l D (tyl ac) t_Mod_placeAll 0 0 93 [(0, .ref o), (1, .int (nI b)), (2, .int (nI n)), (3, .int (nI i)), (4, .int (nI bx))] [] (rM ac o ad (r) M0) Q := by
  refine V_ar_n d_Mod_placeAll_93 rfl ?_
  refine VR_geta d_Mod_placeAll_94 f_Mod_7 (by decide) ?_
  refine V_iload d_Mod_placeAll_97 rfl ?_
  refine VR_iald hA d_Mod_placeAll_99 rfl (by omega) (by decide) ?_
  refine V_iconst (v := 4) d_Mod_placeAll_100 (by decide) ?_
  refine V_icmp_ne 108 d_Mod_placeAll_101 (by decide) (fun h101 => ?_) (fun h101 => ?_)
  · refine V_iconst (v := 0) d_Mod_placeAll_108 (by decide) ?_
    refine V_eqi (show _ = acr r bx from (if_neg h101).symm) ?_
    refine V_istore (lv' := [(5, .int (acr r bx)), (0, .ref o), (1, .int (nI b)), (2, .int (nI n)), (3, .int (nI i)), (4, .int (nI bx))]) d_Mod_placeAll_109 (by decide) rfl ?_
    refine V_lv [1, 2, 3, 4, 5, 0] rfl ?_
    exact PL_111 hA hi hbi hib hbx hbx2 hbxb hq hq0 hq1 hK
  · refine V_iconst (v := 1) d_Mod_placeAll_104 (by decide) ?_
    refine V_goto 109 d_Mod_placeAll_105 (by decide) ?_
    refine V_eqi (show _ = acr r bx from (if_pos (Classical.not_not.mp h101)).symm) ?_
    refine V_istore (lv' := [(5, .int (acr r bx)), (0, .ref o), (1, .int (nI b)), (2, .int (nI n)), (3, .int (nI i)), (4, .int (nI bx))]) d_Mod_placeAll_109 (by decide) rfl ?_
    refine V_lv [1, 2, 3, 4, 5, 0] rfl ?_
    exact PL_111 hA hi hbi hib hbx hbx2 hbxb hq hq0 hq1 hK
end
section
theorem popq_sF (r : RS) (i : Nat) (v : Int32) (m : Nat) : popq (sF r 27 v) i m = popq r i m := by
  induction m with
  | zero => rfl
  | succ m ih => unfold popq; rw [ih]; rfl
set_option maxRecDepth 100000 in
set_option maxHeartbeats 4000000 in
theorem PL_48 {l : Launch} {D : va_G} {ac : Nat → ClassId} {o : Nat} {ad : Nat → Nat} {M0 : MP} {Q : Option Value → MP → Prop} (hA : rAD o ad) {b n i : Nat} : ∀ (m : Nat) (r : RS), gF r 27 = nI m → m ≤ 101 → 0 < popq r i m → V l D (tyl ac) t_Mod_placeAll 0 0 76 [(0, .ref o), (1, .int (nI b)), (2, .int (nI n)), (3, .int (nI i))] [] (rM ac o ad (sF r 27 (nI (popq r i m))) M0) Q → V l D (tyl ac) t_Mod_placeAll 0 0 48 [(0, .ref o), (1, .int (nI b)), (2, .int (nI n)), (3, .int (nI i))] [] (rM ac o ad (r) M0) Q := by
  intro m
  induction m with
  | zero =>
    intro r hm hm1 h0 hK
    exact absurd h0 (by simp [popq])
  | succ m ih =>
    intro r hm hm1 h0 hK
    refine V_ar_n d_Mod_placeAll_48 rfl ?_
    refine VR_geta d_Mod_placeAll_49 f_Mod_68 (by decide) ?_
    refine V_ar_n d_Mod_placeAll_52 rfl ?_
    refine VR_geti d_Mod_placeAll_53 f_Mod_160 (by decide) ?_
    refine V_eqi (show _ = nI (m + 1) from hm) ?_
    refine V_iconst (v := 1) d_Mod_placeAll_56 (by decide) ?_
    refine V_isub d_Mod_placeAll_57 ?_
    refine V_eqi (nI_pred m) ?_
    refine VR_iald hA d_Mod_placeAll_58 rfl (by omega) (by decide) ?_
    refine V_iload_n d_Mod_placeAll_59 rfl ?_
    refine V_icmp_gt 76 d_Mod_placeAll_60 (by decide) (fun h60 => ?_) (fun h60 => ?_)
    · have hp : popq r i (m + 1) = m + 1 := by rw [popq, if_neg (Int32.not_le.mpr h60)]
      rw [hp, sF_self r 27 hm] at hK
      exact hK
    · have hp : popq r i (m + 1) = popq r i m := by rw [popq, if_pos (Int32.not_lt.mp h60)]
      rw [hp] at hK h0
      refine V_ar_n d_Mod_placeAll_63 rfl ?_
      refine V_dup d_Mod_placeAll_64 rfl ?_
      refine VR_geti d_Mod_placeAll_65 f_Mod_160 (by decide) ?_
      refine V_eqi (show _ = nI (m + 1) from hm) ?_
      refine V_iconst (v := 1) d_Mod_placeAll_68 (by decide) ?_
      refine V_isub d_Mod_placeAll_69 ?_
      refine V_eqi (nI_pred m) ?_
      refine VR_puti d_Mod_placeAll_70 f_Mod_160 (by decide) ?_
      refine V_goto 48 d_Mod_placeAll_73 (by decide) ?_
      refine ih (sF r 27 (nI m)) rfl (by omega) (by rw [popq_sF]; exact h0) ?_
      have hpp : popq (sF r 27 (nI m)) i m = popq r i m := popq_sF r i _ m
      rw [hpp, sF_sF]
      exact hK
/-- the number of open boxes, the innermost one at i, and whether all is in range there -/
def opq (r : RS) : Nat := (gF r 27).toNatClampNeg
def plq (r : RS) (i : Nat) : Nat := popq r i (opq r)
def plb (r : RS) (i : Nat) : Nat := (gB r 30 (8 * plq r i - 8)).toNatClampNeg
def pln (b : Nat) (r : RS) (i : Nat) : RS := plc (sF r 27 (nI (plq r i))) (plq r i) i b (plb r i)
def pla (b : Nat) : Nat → Nat → RS → RS
  | 0, _, r => r
  | m + 1, i, r => if gF r 33 = 0 then r else pla b m (i + 1) (pln b r i)
def plk (b : Nat) (r : RS) (i : Nat) : Prop := gF r 27 = nI (opq r) ∧ opq r ≤ 101 ∧ 0 < plq r i ∧ gB r 30 (8 * plq r i - 8) = nI (plb r i) ∧ b ≤ plb r i ∧ plb r i < 6200 ∧ plb r i - b < 3100
def plok (b : Nat) : Nat → Nat → RS → Prop
  | 0, _, _ => True
  | m + 1, i, r => gF r 33 = 0 ∨ (plk b r i ∧ plok b m (i + 1) (pln b r i))
set_option maxRecDepth 100000 in
set_option maxHeartbeats 4000000 in
theorem PL_34 {l : Launch} {D : va_G} {ac : Nat → ClassId} {o : Nat} {ad : Nat → Nat} {M0 : MP} (hA : rAD o ad) {b n : Nat} (hbn : b + n ≤ 6200) (hn : n ≤ 3100) : ∀ (m i : Nat) (r : RS), i + m = b + n → b < i → plok b m i r → V l D (tyl ac) t_Mod_placeAll 0 0 34 [(0, .ref o), (1, .int (nI b)), (2, .int (nI n)), (3, .int (nI i))] [] (rM ac o ad (r) M0) (fun rv M' => rv = none ∧ M' = rM ac o ad (pla b m i r) M0) := by
  intro m
  induction m with
  | zero =>
    intro i r h1 h2 hok
    refine V_iload_n d_Mod_placeAll_34 rfl ?_
    refine V_iload_n d_Mod_placeAll_35 rfl ?_
    refine V_iload_n d_Mod_placeAll_36 rfl ?_
    refine V_iadd d_Mod_placeAll_37 ?_
    refine V_eqi (nI_add b n) ?_
    refine V_icmp_ge 497 d_Mod_placeAll_38 (by decide) (fun h38 => ?_) (fun h38 => ?_)
    · exact V_return d_Mod_placeAll_497 rfl ⟨rfl, rfl⟩
    · exact absurd (nI_le (show b + n ≤ i by omega) (by omega)) h38
  | succ m ih =>
    intro i r h1 h2 hok
    refine V_iload_n d_Mod_placeAll_34 rfl ?_
    refine V_iload_n d_Mod_placeAll_35 rfl ?_
    refine V_iload_n d_Mod_placeAll_36 rfl ?_
    refine V_iadd d_Mod_placeAll_37 ?_
    refine V_eqi (nI_add b n) ?_
    refine V_icmp_ge 497 d_Mod_placeAll_38 (by decide) (fun h38 => ?_) (fun h38 => ?_)
    · exact absurd h38 (nI_ge (by omega) (by omega))
    · refine V_ar_n d_Mod_placeAll_41 rfl ?_
      refine VR_geti d_Mod_placeAll_42 f_Mod_156 (by decide) ?_
      refine V_if_eq 497 d_Mod_placeAll_45 (by decide) (fun h45 => ?_) (fun h45 => ?_)
      · rw [pla, if_pos h45]
        exact V_return d_Mod_placeAll_497 rfl ⟨rfl, rfl⟩
      · rw [pla, if_neg h45]
        obtain ⟨⟨k1, k2, k3, k4, k5, k6, k7⟩, hnx⟩ := hok.resolve_left h45
        have hql := popq_le r i (opq r)
        have hql2 : plq r i ≤ 101 := Nat.le_trans hql k2
        refine PL_48 hA (opq r) r k1 k2 k3 ?_
        refine V_ar_n d_Mod_placeAll_76 rfl ?_
        refine VR_geta d_Mod_placeAll_77 f_Mod_75 (by decide) ?_
        refine V_bipush (v := nI 8) d_Mod_placeAll_80 (by decide) ?_
        refine V_ar_n d_Mod_placeAll_82 rfl ?_
        refine VR_geti d_Mod_placeAll_83 f_Mod_160 (by decide) ?_
        refine V_eqi (show _ = nI (plq r i) from rfl) ?_
        refine V_imul d_Mod_placeAll_86 ?_
        refine V_eqi (pk_mul 8 _) ?_
        refine V_bipush (v := nI 8) d_Mod_placeAll_87 (by decide) ?_
        refine V_isub d_Mod_placeAll_89 ?_
        refine V_eqi (pk_sub (by omega)) ?_
        refine VR_iald hA d_Mod_placeAll_90 rfl (by omega) (by decide) ?_
        refine V_eqi (show _ = nI (plb r i) from k4) ?_
        refine V_istore (lv' := [(4, .int (nI (plb r i))), (0, .ref o), (1, .int (nI b)), (2, .int (nI n)), (3, .int (nI i))]) d_Mod_placeAll_91 (by decide) rfl ?_
        refine V_lv [1, 2, 3, 4, 0] rfl ?_
        exact PL_93 (r := sF r 27 (nI (plq r i))) hA (by omega) (by omega) (by omega) k5 k6 k7 rfl k3 hql2 (ih (i + 1) (pln b r i) (by omega) (by omega) hnx)
def pl0 (r : RS) (b : Nat) : RS := ent (sF (w1 (w1 r 25 0 0) 26 0 (gB r 3 b)) 27 (nI 0)) 0 b b
def plr (r : RS) (b n : Nat) : RS := pla b (n - 1) (b + 1) (pl0 r b)
set_option maxRecDepth 100000 in
set_option maxHeartbeats 4000000 in
theorem Mod_placeAll {l : Launch} {D : va_G} {ac : Nat → ClassId} {o : Nat} {ad : Nat → Nat} {r : RS} (hA : rAD o ad) {b n : Nat} (hn0 : 0 < n) (hbn : b + n ≤ 6200) (hn : n ≤ 3100) (hok : plok b (n - 1) (b + 1) (pl0 r b)) : RCv l D ac o ad t_Mod_placeAll [.int (nI b), .int (nI n)] r (plr r b n) := fun M0 => by
  refine Ct_of (by decide) (Nat.le_of_ble_eq_true rfl) ?_
  refine V_ar_n d_Mod_placeAll_0 rfl ?_
  refine VR_geta d_Mod_placeAll_1 f_Mod_62 (by decide) ?_
  refine V_iconst (v := nI 0) d_Mod_placeAll_4 (by decide) ?_
  refine V_iconst (v := 0) d_Mod_placeAll_5 (by decide) ?_
  refine VR_iast hA d_Mod_placeAll_6 rfl (by omega) (by decide) ?_
  refine V_ar_n d_Mod_placeAll_7 rfl ?_
  refine VR_geta d_Mod_placeAll_8 f_Mod_65 (by decide) ?_
  refine V_iconst (v := nI 0) d_Mod_placeAll_11 (by decide) ?_
  refine V_ar_n d_Mod_placeAll_12 rfl ?_
  refine VR_geta d_Mod_placeAll_13 f_Mod_16 (by decide) ?_
  refine V_iload_n d_Mod_placeAll_16 rfl ?_
  refine VR_iald hA d_Mod_placeAll_17 rfl (by omega) (by decide) ?_
  refine VR_iast hA d_Mod_placeAll_18 rfl (by omega) (by decide) ?_
  refine V_ar_n d_Mod_placeAll_19 rfl ?_
  refine V_iconst (v := nI 0) d_Mod_placeAll_20 (by decide) ?_
  refine VR_puti d_Mod_placeAll_21 f_Mod_160 (by decide) ?_
  refine V_ar_n d_Mod_placeAll_24 rfl ?_
  refine V_iload_n d_Mod_placeAll_25 rfl ?_
  refine V_iload_n d_Mod_placeAll_26 rfl ?_
  refine VR_cv2 d_Mod_placeAll_27 c_Mod_167 (Mod_enter hA rfl (by decide) (Nat.le_refl b) (by omega) (by omega)) ⟨by decide, by decide⟩ rfl (Nat.le_of_ble_eq_true rfl) ?_
  refine V_iload_n d_Mod_placeAll_30 rfl ?_
  refine V_iconst (v := nI 1) d_Mod_placeAll_31 (by decide) ?_
  refine V_iadd d_Mod_placeAll_32 ?_
  refine V_eqi (nI_add b 1) ?_
  refine V_istore_n (lv' := [(3, .int (nI (b + 1))), (0, .ref o), (1, .int (nI b)), (2, .int (nI n))]) d_Mod_placeAll_33 (by decide) rfl ?_
  refine V_lv [1, 2, 3, 0] rfl ?_
  exact PL_34 hA hbn hn (n - 1) (b + 1) (pl0 r b) (by omega) (by omega) hok
end
section
/-! writeAll -/
def wh0 (s : FS) : Nat := (gB s.1 31 6).toNatClampNeg
def wh1 (s : FS) : Nat := (gB s.1 31 7).toNatClampNeg
def nwk (s : FS) : Prop := gB s.1 31 6 = nI (wh0 s) ∧ wh0 s ≤ 1 ∧ gB s.1 31 7 = nI (wh1 s) ∧ wh1 s ≤ 1
def gts (s : FS) (j : Nat) : FS := gt s (gB s.1 25 j) (gB s.1 26 j) (wh0 s) (wh1 s)
def wpo (i : Nat) : Nat → FS → FS
  | 0, s => s
  | q + 1, s => if gB s.1 28 q ≤ nI i then wpo i q (lea s q) else s
theorem lea_ok {s : FS} (h : okf s) (q : Nat) : okf (lea s q) := wp_ok (s := (lck q 8 (sF s.1 27 (nI q)) 0, s.2)) ((lck_F q 18 8 _ 0).trans h) 142 1
theorem lea_B {k : Nat} (h1 : k ≠ 17) (h2 : k ≠ 31) (s : FS) (q : Nat) : gB (lea s q).1 k = gB s.1 k := (wrt_B h1 _ _ _ _).trans (lck_B q h2 8 _ 0)
theorem lea_27 (s : FS) (q : Nat) : gF (lea s q).1 27 = nI q := (wrt_F (by decide) _ _ _ _).trans (lck_F q 27 8 _ 0)
theorem wpo_ok (i : Nat) : ∀ (q : Nat) {s : FS}, okf s → okf (wpo i q s) ∧ s.2 ≤ (wpo i q s).2 ∧ (wpo i q s).2 ≤ s.2 + q := by
  intro q
  induction q with
  | zero => intro s h; exact ⟨h, by simp [wpo], by simp [wpo]⟩
  | succ q ih =>
    intro s h
    unfold wpo
    split
    · have h1 := ih (lea_ok h q)
      have e : (lea s q).2 = s.2 + 1 := rfl
      exact ⟨h1.1, by omega, by omega⟩
    · exact ⟨h, by omega, by omega⟩
theorem wpo_B (i : Nat) {k : Nat} (h1 : k ≠ 17) (h2 : k ≠ 31) : ∀ (q : Nat) (s : FS), gB (wpo i q s).1 k = gB s.1 k := by
  intro q
  induction q with
  | zero => intro s; rfl
  | succ q ih =>
    intro s
    unfold wpo
    split
    · exact (ih _).trans (lea_B h1 h2 s q)
    · rfl
theorem popq_B {r r' : RS} (h : gB r' 28 = gB r 28) (i m : Nat) : popq r' i m = popq r i m := by
  induction m with
  | zero => rfl
  | succ m ih => unfold popq; rw [ih, h]
theorem wpo_27 (i : Nat) : ∀ (q : Nat) (s : FS), gF s.1 27 = nI q → gF (wpo i q s).1 27 = nI (popq s.1 i q) := by
  intro q
  induction q with
  | zero => intro s h; exact h
  | succ q ih =>
    intro s h
    unfold wpo popq
    split
    · rw [ih (lea s q) (lea_27 s q), popq_B (lea_B (by decide) (by decide) s q)]
    · exact h
def kck (q : Nat) : Nat → RS → Nat → RS
  | 0, r, _ => r
  | m + 1, r, j => kck q m (w1 r 30 (8 * q + j) (gB r 31 j)) (j + 1)
theorem kck_F (q k : Nat) : ∀ (m : Nat) (r : RS) (j : Nat), gF (kck q m r j) k = gF r k := by
  intro m
  induction m with
  | zero => intro r j; rfl
  | succ m ih => intro r j; exact ih _ _
def wbx0 (r : RS) (q i : Nat) : RS := sF (w1 r 28 q (nI i + gB r 7 i)) 27 (nI (q + 1))
def wbx1 (r : RS) (q : Nat) : RS := sF r 24 (if nI (q + 1) ≤ gF r 24 then gF r 24 else nI (q + 1))
def wbxX (X : RS) (N q i : Nat) : FS := wp (wbx1 (wbx0 X q i) q, N) 141 1
def wbx (s : FS) (q i : Nat) : FS := wbxX (kck q 8 s.1 0) s.2 q i
def wch1 (s : FS) (i : Nat) : FS := (w1 (szd s.1 ((gB s.1 31 0).toInt64 + (gB s.1 2 i).toInt64)) 31 0 (gB s.1 31 0 + gB s.1 2 i), s.2)
def wch (s : FS) (i : Nat) : FS := wch1 (chw s (gB s.1 5 i).toNatClampNeg (gB s.1 6 i)) i
def wit (s : FS) (q i b : Nat) : FS := if ¬ isb s.1 i = 0 ∧ 1 < gB s.1 7 i then wbx (gts s (i - b)) q i else if gB s.1 1 i = 1 then wch (gts s (i - b)) i else if gB s.1 1 i = 2 then wru s i (bxo s.1 b i (i - b)) b (wh0 s) (wh1 s) else s
set_option maxRecDepth 100000 in
set_option maxHeartbeats 4000000 in
theorem WA_25 {l : Launch} {D : va_G} {ac : Nat → ClassId} {o : Nat} {ad : Nat → Nat} {M0 : MP} {Q : Option Value → MP → Prop} (hA : rAD o ad) {b n i : Nat} : ∀ (q : Nat) (s : FS), gF s.1 27 = nI q → q ≤ 101 → okf s → s.2 + q ≤ 320000 → V l D (tyl ac) t_Mod_writeAll 0 0 55 [(0, .ref o), (1, .int (nI b)), (2, .int (nI n)), (3, .int (nI b)), (4, .int (nI i))] [] (rM ac o ad ((wpo i q s).1) M0) Q → V l D (tyl ac) t_Mod_writeAll 0 0 25 [(0, .ref o), (1, .int (nI b)), (2, .int (nI n)), (3, .int (nI b)), (4, .int (nI i))] [] (rM ac o ad (s.1) M0) Q := by
  intro q
  induction q with
  | zero =>
    intro s hq hq1 hs hb hK
    refine V_ar_n d_Mod_writeAll_25 rfl ?_
    refine VR_geti d_Mod_writeAll_26 f_Mod_160 (by decide) ?_
    refine V_eqi (show _ = nI 0 from hq) ?_
    refine V_if_le 55 d_Mod_writeAll_29 (by decide) (fun h29 => ?_) (fun h29 => ?_)
    · exact hK
    · exact absurd (by decide) h29
  | succ q ih =>
    intro s hq hq1 hs hb hK
    refine V_ar_n d_Mod_writeAll_25 rfl ?_
    refine VR_geti d_Mod_writeAll_26 f_Mod_160 (by decide) ?_
    refine V_eqi (show _ = nI (q + 1) from hq) ?_
    refine V_if_le 55 d_Mod_writeAll_29 (by decide) (fun h29 => ?_) (fun h29 => ?_)
    · exact absurd h29 (nI_nle (by omega) (by omega))
    · refine V_ar_n d_Mod_writeAll_32 rfl ?_
      refine VR_geta d_Mod_writeAll_33 f_Mod_68 (by decide) ?_
      refine V_ar_n d_Mod_writeAll_36 rfl ?_
      refine VR_geti d_Mod_writeAll_37 f_Mod_160 (by decide) ?_
      refine V_eqi (show _ = nI (q + 1) from hq) ?_
      refine V_iconst (v := 1) d_Mod_writeAll_40 (by decide) ?_
      refine V_isub d_Mod_writeAll_41 ?_
      refine V_eqi (nI_pred q) ?_
      refine VR_iald hA d_Mod_writeAll_42 rfl (by omega) (by decide) ?_
      refine V_iload d_Mod_writeAll_43 rfl ?_
      refine V_icmp_gt 55 d_Mod_writeAll_45 (by decide) (fun h45 => ?_) (fun h45 => ?_)
      · rw [wpo, if_neg (Int32.not_le.mpr h45)] at hK
        exact hK
      · rw [wpo, if_pos (Int32.not_lt.mp h45)] at hK
        refine V_ar_n d_Mod_writeAll_48 rfl ?_
        refine VR_cv0 d_Mod_writeAll_49 c_Mod_188 (Mod_leave hA hq (by omega) hs (by omega)) ⟨by decide, by decide⟩ rfl (Nat.le_of_ble_eq_true rfl) ?_
        refine V_goto 25 d_Mod_writeAll_52 (by decide) ?_
        exact ih (lea s q) (lea_27 s q) (by omega) (lea_ok hs q) (show s.2 + 1 + q ≤ 320000 by omega) hK
set_option maxRecDepth 100000 in
set_option maxHeartbeats 4000000 in
theorem WA_304 {l : Launch} {D : va_G} {ac : Nat → ClassId} {o : Nat} {ad : Nat → Nat} {M0 : MP} {Q : Option Value → MP → Prop} {b n i : Nat} {s : FS} (hK : V l D (tyl ac) t_Mod_writeAll 0 0 10 [(0, .ref o), (1, .int (nI b)), (2, .int (nI n)), (3, .int (nI b)), (4, .int (nI (i + 1)))] [] (rM ac o ad (s.1) M0) Q) : V l D (tyl ac) t_Mod_writeAll 0 0 304 [(0, .ref o), (1, .int (nI b)), (2, .int (nI n)), (3, .int (nI b)), (4, .int (nI i))] [] (rM ac o ad (s.1) M0) Q := by
  refine V_iinc (v := nI (i + 1)) (lv' := [(4, .int (nI (i + 1))), (0, .ref o), (1, .int (nI b)), (2, .int (nI n)), (3, .int (nI b))]) 4 d_Mod_writeAll_304 rfl (nI_1 i) (by decide) rfl ?_
  refine V_goto 10 d_Mod_writeAll_307 (by decide) ?_
  refine V_lv [1, 2, 3, 4, 0] rfl ?_
  exact hK
set_option maxRecDepth 100000 in
set_option maxHeartbeats 4000000 in
theorem WA_100 {l : Launch} {D : va_G} {ac : Nat → ClassId} {o : Nat} {ad : Nat → Nat} {M0 : MP} {Q : Option Value → MP → Prop} (hA : rAD o ad) {b n i q : Nat} (hq2 : q ≤ 101) : ∀ (m j : Nat) (r : RS), j + m = 8 → gF r 27 = nI q → V l D (tyl ac) t_Mod_writeAll 0 0 135 [(0, .ref o), (1, .int (nI b)), (2, .int (nI n)), (3, .int (nI b)), (4, .int (nI i))] [] (rM ac o ad (kck q m r j) M0) Q → V l D (tyl ac) t_Mod_writeAll 0 0 100 [(0, .ref o), (1, .int (nI b)), (2, .int (nI n)), (3, .int (nI b)), (4, .int (nI i)), (5, .int (nI j))] [] (rM ac o ad (r) M0) Q := by
  intro m
  induction m with
  | zero =>
    intro j r h1 hq hK
    refine V_iload d_Mod_writeAll_100 rfl ?_
    refine V_bipush (v := nI 8) d_Mod_writeAll_102 (by decide) ?_
    refine V_icmp_ge 135 d_Mod_writeAll_104 (by decide) (fun h104 => ?_) (fun h104 => ?_)
    · refine V_lv [0, 1, 2, 3, 4] rfl ?_
      exact hK
    · exact absurd (nI_le (show 8 ≤ j by omega) (by omega)) h104
  | succ m ih =>
    intro j r h1 hq hK
    refine V_iload d_Mod_writeAll_100 rfl ?_
    refine V_bipush (v := nI 8) d_Mod_writeAll_102 (by decide) ?_
    refine V_icmp_ge 135 d_Mod_writeAll_104 (by decide) (fun h104 => ?_) (fun h104 => ?_)
    · exact absurd h104 (nI_ge (by omega) (by decide))
    · refine V_ar_n d_Mod_writeAll_107 rfl ?_
      refine VR_geta d_Mod_writeAll_108 f_Mod_75 (by decide) ?_
      refine V_bipush (v := nI 8) d_Mod_writeAll_111 (by decide) ?_
      refine V_ar_n d_Mod_writeAll_113 rfl ?_
      refine VR_geti d_Mod_writeAll_114 f_Mod_160 (by decide) ?_
      refine V_eqi (show _ = nI q from hq) ?_
      refine V_imul d_Mod_writeAll_117 ?_
      refine V_eqi (pk_mul 8 q) ?_
      refine V_iload d_Mod_writeAll_118 rfl ?_
      refine V_iadd d_Mod_writeAll_120 ?_
      refine V_eqi (nI_add _ _) ?_
      refine V_ar_n d_Mod_writeAll_121 rfl ?_
      refine VR_geta d_Mod_writeAll_122 f_Mod_78 (by decide) ?_
      refine V_iload d_Mod_writeAll_125 rfl ?_
      refine VR_iald hA d_Mod_writeAll_127 rfl (by omega) (by decide) ?_
      refine VR_iast hA d_Mod_writeAll_128 rfl (by omega) (by decide) ?_
      refine V_iinc (v := nI (j + 1)) (lv' := [(5, .int (nI (j + 1))), (0, .ref o), (1, .int (nI b)), (2, .int (nI n)), (3, .int (nI b)), (4, .int (nI i))]) 5 d_Mod_writeAll_129 rfl (nI_1 j) (by decide) rfl ?_
      refine V_goto 100 d_Mod_writeAll_132 (by decide) ?_
      refine V_lv [1, 2, 3, 4, 5, 0] rfl ?_
      exact ih (j + 1) _ (by omega) hq hK
set_option maxRecDepth 100000 in
set_option maxHeartbeats 4000000 in
theorem WA_164 {l : Launch} {D : va_G} {ac : Nat → ClassId} {o : Nat} {ad : Nat → Nat} {M0 : MP} {Q : Option Value → MP → Prop} (hA : rAD o ad) {b n i q : Nat} {s : FS} (hq : gF s.1 27 = nI (q + 1)) (hs : okf s) (hb : s.2 + 1 ≤ 320000) (hK : V l D (tyl ac) t_Mod_writeAll 0 0 10 [(0, .ref o), (1, .int (nI b)), (2, .int (nI n)), (3, .int (nI b)), (4, .int (nI (i + 1)))] [] (rM ac o ad ((wp (wbx1 s.1 q, s.2) 141 1).1) M0) Q) : V l D (tyl ac) t_Mod_writeAll 0 0 164 [(0, .ref o), (1, .int (nI b)), (2, .int (nI n)), (3, .int (nI b)), (4, .int (nI i))] [] (rM ac o ad (s.1) M0) Q := by
  refine V_ar_n d_Mod_writeAll_164 rfl ?_
  refine V_ar_n d_Mod_writeAll_165 rfl ?_
  refine VR_geti d_Mod_writeAll_166 f_Mod_160 (by decide) ?_
  refine V_eqi (show _ = nI (q + 1) from hq) ?_
  refine V_ar_n d_Mod_writeAll_169 rfl ?_
  refine VR_geti d_Mod_writeAll_170 f_Mod_191 (by decide) ?_
  refine V_icmp_le 183 d_Mod_writeAll_173 (by decide) (fun h173 => ?_) (fun h173 => ?_)
  · refine V_ar_n d_Mod_writeAll_183 rfl ?_
    refine VR_geti d_Mod_writeAll_184 f_Mod_191 (by decide) ?_
    refine V_eqi (show _ = (if nI (q + 1) ≤ gF s.1 24 then gF s.1 24 else nI (q + 1)) from (if_pos h173).symm) ?_
    refine VR_puti d_Mod_writeAll_187 f_Mod_191 (by decide) ?_
    refine V_ar_n d_Mod_writeAll_190 rfl ?_
    refine V_sipush (v := 141) d_Mod_writeAll_191 (by decide) ?_
    refine V_iconst (v := nI 1) d_Mod_writeAll_194 (by decide) ?_
    refine VR_cv2 d_Mod_writeAll_195 c_Mod_149 (Mod_write hA _ (hs) (by decide) (by omega)) ⟨by decide, by decide⟩ rfl (Nat.le_of_ble_eq_true rfl) ?_
    refine V_goto 304 d_Mod_writeAll_198 (by decide) ?_
    exact WA_304 (s := wp (wbx1 s.1 q, s.2) 141 1) hK
  · refine V_ar_n d_Mod_writeAll_176 rfl ?_
    refine VR_geti d_Mod_writeAll_177 f_Mod_160 (by decide) ?_
    refine V_eqi (show _ = nI (q + 1) from hq) ?_
    refine V_goto 187 d_Mod_writeAll_180 (by decide) ?_
    refine V_eqi (show _ = (if nI (q + 1) ≤ gF s.1 24 then gF s.1 24 else nI (q + 1)) from (if_neg h173).symm) ?_
    refine VR_puti d_Mod_writeAll_187 f_Mod_191 (by decide) ?_
    refine V_ar_n d_Mod_writeAll_190 rfl ?_
    refine V_sipush (v := 141) d_Mod_writeAll_191 (by decide) ?_
    refine V_iconst (v := nI 1) d_Mod_writeAll_194 (by decide) ?_
    refine VR_cv2 d_Mod_writeAll_195 c_Mod_149 (Mod_write hA _ (hs) (by decide) (by omega)) ⟨by decide, by decide⟩ rfl (Nat.le_of_ble_eq_true rfl) ?_
    refine V_goto 304 d_Mod_writeAll_198 (by decide) ?_
    exact WA_304 (s := wp (wbx1 s.1 q, s.2) 141 1) hK
set_option maxRecDepth 100000 in
set_option maxHeartbeats 4000000 in
theorem WA_135 {l : Launch} {D : va_G} {ac : Nat → ClassId} {o : Nat} {ad : Nat → Nat} {M0 : MP} {Q : Option Value → MP → Prop} (hA : rAD o ad) {b n i q N : Nat} {X : RS} (hi : i < 6200) (hq2 : q ≤ 101) (hk27 : gF X 27 = nI q) (hk18 : gF X 18 = nI N) (hb : N + 1 ≤ 320000) (hK : V l D (tyl ac) t_Mod_writeAll 0 0 10 [(0, .ref o), (1, .int (nI b)), (2, .int (nI n)), (3, .int (nI b)), (4, .int (nI (i + 1)))] [] (rM ac o ad ((wbxX X N q i).1) M0) Q) : V l D (tyl ac) t_Mod_writeAll 0 0 135 [(0, .ref o), (1, .int (nI b)), (2, .int (nI n)), (3, .int (nI b)), (4, .int (nI i))] [] (rM ac o ad (X) M0) Q := by
  refine V_ar_n d_Mod_writeAll_135 rfl ?_
  refine VR_geta d_Mod_writeAll_136 f_Mod_68 (by decide) ?_
  refine V_ar_n d_Mod_writeAll_139 rfl ?_
  refine VR_geti d_Mod_writeAll_140 f_Mod_160 (by decide) ?_
  refine V_eqi (show _ = nI q from hk27) ?_
  refine V_iload d_Mod_writeAll_143 rfl ?_
  refine V_ar_n d_Mod_writeAll_145 rfl ?_
  refine VR_geta d_Mod_writeAll_146 f_Mod_28 (by decide) ?_
  refine V_iload d_Mod_writeAll_149 rfl ?_
  refine VR_iald hA d_Mod_writeAll_151 rfl (by omega) (by decide) ?_
  refine V_iadd d_Mod_writeAll_152 ?_
  refine VR_iast hA d_Mod_writeAll_153 rfl (by omega) (by decide) ?_
  refine V_ar_n d_Mod_writeAll_154 rfl ?_
  refine V_dup d_Mod_writeAll_155 rfl ?_
  refine VR_geti d_Mod_writeAll_156 f_Mod_160 (by decide) ?_
  refine V_eqi (show _ = nI q from hk27) ?_
  refine V_iconst (v := 1) d_Mod_writeAll_159 (by decide) ?_
  refine V_iadd d_Mod_writeAll_160 ?_
  refine V_eqi (nI_1 q) ?_
  refine VR_puti d_Mod_writeAll_161 f_Mod_160 (by decide) ?_
  exact WA_164 (s := (wbx0 X q i, N)) hA rfl hk18 (show N + 1 ≤ 320000 by omega) hK
set_option maxRecDepth 100000 in
set_option maxHeartbeats 4000000 in
theorem WA_75a {l : Launch} {D : va_G} {ac : Nat → ClassId} {o : Nat} {ad : Nat → Nat} {M0 : MP} {Q : Option Value → MP → Prop} (hA : rAD o ad) {b n i q : Nat} {s : FS} (hi : i < 6200) (hbi : b ≤ i) (hib : i - b < 3100) (hq : gF s.1 27 = nI q) (hq2 : q ≤ 101) (hs : okf s) (hb : s.2 + 40 ≤ 320000) (hw : nwk s) (hK : V l D (tyl ac) t_Mod_writeAll 0 0 97 [(0, .ref o), (1, .int (nI b)), (2, .int (nI n)), (3, .int (nI b)), (4, .int (nI i))] [] (rM ac o ad ((gts s (i - b)).1) M0) Q) : V l D (tyl ac) t_Mod_writeAll 0 0 75 [(0, .ref o), (1, .int (nI b)), (2, .int (nI n)), (3, .int (nI b)), (4, .int (nI i))] [] (rM ac o ad (s.1) M0) Q := by
  refine V_ar_n d_Mod_writeAll_75 rfl ?_
  refine V_ar_n d_Mod_writeAll_76 rfl ?_
  refine VR_geta d_Mod_writeAll_77 f_Mod_62 (by decide) ?_
  refine V_iload d_Mod_writeAll_80 rfl ?_
  refine V_iload_n d_Mod_writeAll_82 rfl ?_
  refine V_isub d_Mod_writeAll_83 ?_
  refine V_eqi (pk_sub hbi) ?_
  refine VR_iald hA d_Mod_writeAll_84 rfl (by omega) (by decide) ?_
  refine V_ar_n d_Mod_writeAll_85 rfl ?_
  refine VR_geta d_Mod_writeAll_86 f_Mod_65 (by decide) ?_
  refine V_iload d_Mod_writeAll_89 rfl ?_
  refine V_iload_n d_Mod_writeAll_91 rfl ?_
  refine V_isub d_Mod_writeAll_92 ?_
  refine V_eqi (pk_sub hbi) ?_
  refine VR_iald hA d_Mod_writeAll_93 rfl (by omega) (by decide) ?_
  refine VR_cv2 d_Mod_writeAll_94 c_Mod_185 (Mod_goTo hA _ _ hs (by omega) hw.2.1 hw.2.2.2 hw.1 hw.2.2.1) ⟨by decide, by decide⟩ rfl (Nat.le_of_ble_eq_true rfl) ?_
  exact hK
set_option maxRecDepth 100000 in
set_option maxHeartbeats 4000000 in
theorem WA_97 {l : Launch} {D : va_G} {ac : Nat → ClassId} {o : Nat} {ad : Nat → Nat} {M0 : MP} {Q : Option Value → MP → Prop} (hA : rAD o ad) {b n i q : Nat} {s : FS} (hi : i < 6200) (hq : gF s.1 27 = nI q) (hq2 : q ≤ 101) (hs : okf s) (hb : s.2 + 1 ≤ 320000) (hK : V l D (tyl ac) t_Mod_writeAll 0 0 10 [(0, .ref o), (1, .int (nI b)), (2, .int (nI n)), (3, .int (nI b)), (4, .int (nI (i + 1)))] [] (rM ac o ad ((wbx s q i).1) M0) Q) : V l D (tyl ac) t_Mod_writeAll 0 0 97 [(0, .ref o), (1, .int (nI b)), (2, .int (nI n)), (3, .int (nI b)), (4, .int (nI i))] [] (rM ac o ad (s.1) M0) Q := by
  refine V_iconst (v := nI 0) d_Mod_writeAll_97 (by decide) ?_
  refine V_istore (lv' := [(5, .int (nI 0)), (0, .ref o), (1, .int (nI b)), (2, .int (nI n)), (3, .int (nI b)), (4, .int (nI i))]) d_Mod_writeAll_98 (by decide) rfl ?_
  refine V_lv [1, 2, 3, 4, 5, 0] rfl ?_
  refine WA_100 hA hq2 8 0 s.1 rfl hq ?_
  exact WA_135 hA hi hq2 ((kck_F q 27 8 s.1 0).trans hq) ((kck_F q 18 8 s.1 0).trans hs) hb hK
set_option maxRecDepth 100000 in
set_option maxHeartbeats 4000000 in
theorem WA_75 {l : Launch} {D : va_G} {ac : Nat → ClassId} {o : Nat} {ad : Nat → Nat} {M0 : MP} {Q : Option Value → MP → Prop} (hA : rAD o ad) {b n i q : Nat} {s : FS} (hi : i < 6200) (hbi : b ≤ i) (hib : i - b < 3100) (hq : gF s.1 27 = nI q) (hq2 : q ≤ 101) (hs : okf s) (hb : s.2 + 40 ≤ 320000) (hw : nwk s) (hK : V l D (tyl ac) t_Mod_writeAll 0 0 10 [(0, .ref o), (1, .int (nI b)), (2, .int (nI n)), (3, .int (nI b)), (4, .int (nI (i + 1)))] [] (rM ac o ad ((wbx (gts s (i - b)) q i).1) M0) Q) : V l D (tyl ac) t_Mod_writeAll 0 0 75 [(0, .ref o), (1, .int (nI b)), (2, .int (nI n)), (3, .int (nI b)), (4, .int (nI i))] [] (rM ac o ad (s.1) M0) Q := by
  have hg := gt_le s (gB s.1 25 (i - b)) (gB s.1 26 (i - b)) (wh0 s) (wh1 s)
  have hgo : okf (gts s (i - b)) := gt_ok hs (gB s.1 25 (i - b)) (gB s.1 26 (i - b)) (wh0 s) (wh1 s)
  have hg27 : gF (gts s (i - b)).1 27 = nI q := (gt_F (by decide) (by decide) s _ _ _ _).trans hq
  have hg2 : (gts s (i - b)).2 ≤ s.2 + 10 := hg.2
  refine WA_75a hA hi hbi hib hq hq2 hs hb hw ?_
  generalize gts s (i - b) = G at hK hgo hg27 hg2 ⊢
  exact WA_97 hA hi hg27 hq2 hgo (by omega) hK
set_option maxRecDepth 100000 in
set_option maxHeartbeats 4000000 in
theorem WA_212 {l : Launch} {D : va_G} {ac : Nat → ClassId} {o : Nat} {ad : Nat → Nat} {M0 : MP} {Q : Option Value → MP → Prop} (hA : rAD o ad) {b n i q f : Nat} {s : FS} (hi : i < 6200) (hbi : b ≤ i) (hib : i - b < 3100) (hq : gF s.1 27 = nI q) (hq2 : q ≤ 101) (hs : okf s) (hb : s.2 + 40 ≤ 320000) (hw : nwk s) (hf : gB s.1 5 i = nI f) (hf2 : f < 32) (hK : V l D (tyl ac) t_Mod_writeAll 0 0 10 [(0, .ref o), (1, .int (nI b)), (2, .int (nI n)), (3, .int (nI b)), (4, .int (nI (i + 1)))] [] (rM ac o ad ((wch (gts s (i - b)) i).1) M0) Q) : V l D (tyl ac) t_Mod_writeAll 0 0 212 [(0, .ref o), (1, .int (nI b)), (2, .int (nI n)), (3, .int (nI b)), (4, .int (nI i))] [] (rM ac o ad (s.1) M0) Q := by
  have hg := gt_le s (gB s.1 25 (i - b)) (gB s.1 26 (i - b)) (wh0 s) (wh1 s)
  have hgo : okf (gts s (i - b)) := gt_ok hs (gB s.1 25 (i - b)) (gB s.1 26 (i - b)) (wh0 s) (wh1 s)
  have hg2 : (gts s (i - b)).2 ≤ s.2 + 10 := hg.2
  have e5 : gB (gts s (i - b)).1 5 = gB s.1 5 := gt_B (by decide) (by decide) s _ _ _ _
  have ef : gB (gts s (i - b)).1 5 i = nI (gB (gts s (i - b)).1 5 i).toNatClampNeg := by rw [e5, hf, nI_clamp (by omega)]
  have ef2 : (gB (gts s (i - b)).1 5 i).toNatClampNeg < 32 := by rw [e5, hf, nI_clamp (by omega)]; exact hf2
  refine V_ar_n d_Mod_writeAll_212 rfl ?_
  refine V_ar_n d_Mod_writeAll_213 rfl ?_
  refine VR_geta d_Mod_writeAll_214 f_Mod_62 (by decide) ?_
  refine V_iload d_Mod_writeAll_217 rfl ?_
  refine V_iload_n d_Mod_writeAll_219 rfl ?_
  refine V_isub d_Mod_writeAll_220 ?_
  refine V_eqi (pk_sub hbi) ?_
  refine VR_iald hA d_Mod_writeAll_221 rfl (by omega) (by decide) ?_
  refine V_ar_n d_Mod_writeAll_222 rfl ?_
  refine VR_geta d_Mod_writeAll_223 f_Mod_65 (by decide) ?_
  refine V_iload d_Mod_writeAll_226 rfl ?_
  refine V_iload_n d_Mod_writeAll_228 rfl ?_
  refine V_isub d_Mod_writeAll_229 ?_
  refine V_eqi (pk_sub hbi) ?_
  refine VR_iald hA d_Mod_writeAll_230 rfl (by omega) (by decide) ?_
  refine VR_cv2 d_Mod_writeAll_231 c_Mod_185 (Mod_goTo hA _ _ hs (by omega) hw.2.1 hw.2.2.2 hw.1 hw.2.2.1) ⟨by decide, by decide⟩ rfl (Nat.le_of_ble_eq_true rfl) ?_
  refine V_ar_n d_Mod_writeAll_234 rfl ?_
  refine V_iload d_Mod_writeAll_235 rfl ?_
  refine VR_cv1 d_Mod_writeAll_237 c_Mod_194 (Mod_writeCharacter (s := gts s (i - b)) hA hi ef2 ef rfl hgo (by omega)) ⟨by decide, by decide⟩ rfl (Nat.le_of_ble_eq_true rfl) ?_
  refine V_ar_n d_Mod_writeAll_240 rfl ?_
  refine V_ar_n d_Mod_writeAll_241 rfl ?_
  refine VR_geta d_Mod_writeAll_242 f_Mod_78 (by decide) ?_
  refine V_iconst (v := nI 0) d_Mod_writeAll_245 (by decide) ?_
  refine VR_iald hA d_Mod_writeAll_246 rfl (by omega) (by decide) ?_
  refine V_i2l d_Mod_writeAll_247 ?_
  refine V_ar_n d_Mod_writeAll_248 rfl ?_
  refine VR_geta d_Mod_writeAll_249 f_Mod_13 (by decide) ?_
  refine V_iload d_Mod_writeAll_252 rfl ?_
  refine VR_iald hA d_Mod_writeAll_254 rfl (by omega) (by decide) ?_
  refine V_i2l d_Mod_writeAll_255 ?_
  refine V_ladd d_Mod_writeAll_256 ?_
  refine VR_cv1 d_Mod_writeAll_257 c_Mod_163 (Mod_sized _) ⟨by decide, by decide⟩ rfl (Nat.le_of_ble_eq_true rfl) ?_
  refine V_ar_n d_Mod_writeAll_260 rfl ?_
  refine VR_geta d_Mod_writeAll_261 f_Mod_78 (by decide) ?_
  refine V_iconst (v := nI 0) d_Mod_writeAll_264 (by decide) ?_
  refine V_dup2 d_Mod_writeAll_265 rfl rfl ?_
  refine VR_iald hA d_Mod_writeAll_266 rfl (by omega) (by decide) ?_
  refine V_ar_n d_Mod_writeAll_267 rfl ?_
  refine VR_geta d_Mod_writeAll_268 f_Mod_13 (by decide) ?_
  refine V_iload d_Mod_writeAll_271 rfl ?_
  refine VR_iald hA d_Mod_writeAll_273 rfl (by omega) (by decide) ?_
  refine V_iadd d_Mod_writeAll_274 ?_
  refine VR_iast hA d_Mod_writeAll_275 rfl (by omega) (by decide) ?_
  refine V_goto 304 d_Mod_writeAll_276 (by decide) ?_
  exact WA_304 (s := wch (gts s (i - b)) i) hK
set_option maxRecDepth 100000 in
set_option maxHeartbeats 4000000 in
theorem WA_55 {l : Launch} {D : va_G} {ac : Nat → ClassId} {o : Nat} {ad : Nat → Nat} {M0 : MP} {Q : Option Value → MP → Prop} (hA : rAD o ad) {b n i q : Nat} {s : FS} (hi : i < 6200) (hbi : b ≤ i) (hib : i - b < 3100) (hq : gF s.1 27 = nI q) (hq2 : q ≤ 101) (hs : okf s) (hb : s.2 + 40 ≤ 320000) (hw : nwk s) (hch : gB s.1 1 i = 1 → ∃ f, gB s.1 5 i = nI f ∧ f < 32) (hK : V l D (tyl ac) t_Mod_writeAll 0 0 10 [(0, .ref o), (1, .int (nI b)), (2, .int (nI n)), (3, .int (nI b)), (4, .int (nI (i + 1)))] [] (rM ac o ad ((wit s q i b).1) M0) Q) : V l D (tyl ac) t_Mod_writeAll 0 0 55 [(0, .ref o), (1, .int (nI b)), (2, .int (nI n)), (3, .int (nI b)), (4, .int (nI i))] [] (rM ac o ad (s.1) M0) Q := by
  refine V_ar_n d_Mod_writeAll_55 rfl ?_
  refine V_iload d_Mod_writeAll_56 rfl ?_
  refine VR_ci1 d_Mod_writeAll_58 c_Mod_116 (Mod_isBox hA hi) ⟨by decide, by decide⟩ rfl (Nat.le_of_ble_eq_true rfl) ?_
  refine V_if_eq 201 d_Mod_writeAll_61 (by decide) (fun h61 => ?_) (fun h61 => ?_)
  · have hnb : ¬ (¬ isb s.1 i = 0 ∧ 1 < gB s.1 7 i) := fun z => z.1 h61
    refine V_ar_n d_Mod_writeAll_201 rfl ?_
    refine VR_geta d_Mod_writeAll_202 f_Mod_7 (by decide) ?_
    refine V_iload d_Mod_writeAll_205 rfl ?_
    refine VR_iald hA d_Mod_writeAll_207 rfl (by omega) (by decide) ?_
    refine V_iconst (v := 1) d_Mod_writeAll_208 (by decide) ?_
    refine V_icmp_ne 279 d_Mod_writeAll_209 (by decide) (fun h209 => ?_) (fun h209 => ?_)
    · refine V_ar_n d_Mod_writeAll_279 rfl ?_
      refine VR_geta d_Mod_writeAll_280 f_Mod_7 (by decide) ?_
      refine V_iload d_Mod_writeAll_283 rfl ?_
      refine VR_iald hA d_Mod_writeAll_285 rfl (by omega) (by decide) ?_
      refine V_iconst (v := 2) d_Mod_writeAll_286 (by decide) ?_
      refine V_icmp_ne 304 d_Mod_writeAll_287 (by decide) (fun h287 => ?_) (fun h287 => ?_)
      · rw [wit, if_neg hnb, if_neg h209, if_neg h287] at hK
        exact WA_304 hK
      · rw [wit, if_neg hnb, if_neg h209, if_pos (Classical.not_not.mp h287)] at hK
        have hbo := bxo_le s.1 b i (i - b)
        refine V_ar_n d_Mod_writeAll_290 rfl ?_
        refine V_iload d_Mod_writeAll_291 rfl ?_
        refine V_ar_n d_Mod_writeAll_293 rfl ?_
        refine V_iload d_Mod_writeAll_294 rfl ?_
        refine V_iload_n d_Mod_writeAll_296 rfl ?_
        refine VR_ci2 d_Mod_writeAll_297 c_Mod_197 (Mod_boxOf hA hbi hi) ⟨by decide, by decide⟩ rfl (Nat.le_of_ble_eq_true rfl) ?_
        refine V_iload_n d_Mod_writeAll_300 rfl ?_
        refine VR_cv3 d_Mod_writeAll_301 c_Mod_200 (Mod_writeRule hA hi (by omega) hbi hib hs (by omega) hw.2.1 hw.2.2.2 hw.1 hw.2.2.1) ⟨by decide, by decide⟩ rfl (Nat.le_of_ble_eq_true rfl) ?_
        exact WA_304 (s := wru s i (bxo s.1 b i (i - b)) b (wh0 s) (wh1 s)) hK
    · rw [wit, if_neg hnb, if_pos (Classical.not_not.mp h209)] at hK
      obtain ⟨f, hf, hf2⟩ := hch (Classical.not_not.mp h209)
      exact WA_212 hA hi hbi hib hq hq2 hs hb hw hf hf2 hK
  · refine V_ar_n d_Mod_writeAll_64 rfl ?_
    refine VR_geta d_Mod_writeAll_65 f_Mod_28 (by decide) ?_
    refine V_iload d_Mod_writeAll_68 rfl ?_
    refine VR_iald hA d_Mod_writeAll_70 rfl (by omega) (by decide) ?_
    refine V_iconst (v := 1) d_Mod_writeAll_71 (by decide) ?_
    refine V_icmp_le 201 d_Mod_writeAll_72 (by decide) (fun h72 => ?_) (fun h72 => ?_)
    · have hnb : ¬ (¬ isb s.1 i = 0 ∧ 1 < gB s.1 7 i) := fun z => absurd h72 (Int32.not_le.mpr z.2)
      refine V_ar_n d_Mod_writeAll_201 rfl ?_
      refine VR_geta d_Mod_writeAll_202 f_Mod_7 (by decide) ?_
      refine V_iload d_Mod_writeAll_205 rfl ?_
      refine VR_iald hA d_Mod_writeAll_207 rfl (by omega) (by decide) ?_
      refine V_iconst (v := 1) d_Mod_writeAll_208 (by decide) ?_
      refine V_icmp_ne 279 d_Mod_writeAll_209 (by decide) (fun h209 => ?_) (fun h209 => ?_)
      · refine V_ar_n d_Mod_writeAll_279 rfl ?_
        refine VR_geta d_Mod_writeAll_280 f_Mod_7 (by decide) ?_
        refine V_iload d_Mod_writeAll_283 rfl ?_
        refine VR_iald hA d_Mod_writeAll_285 rfl (by omega) (by decide) ?_
        refine V_iconst (v := 2) d_Mod_writeAll_286 (by decide) ?_
        refine V_icmp_ne 304 d_Mod_writeAll_287 (by decide) (fun h287 => ?_) (fun h287 => ?_)
        · rw [wit, if_neg hnb, if_neg h209, if_neg h287] at hK
          exact WA_304 hK
        · rw [wit, if_neg hnb, if_neg h209, if_pos (Classical.not_not.mp h287)] at hK
          have hbo := bxo_le s.1 b i (i - b)
          refine V_ar_n d_Mod_writeAll_290 rfl ?_
          refine V_iload d_Mod_writeAll_291 rfl ?_
          refine V_ar_n d_Mod_writeAll_293 rfl ?_
          refine V_iload d_Mod_writeAll_294 rfl ?_
          refine V_iload_n d_Mod_writeAll_296 rfl ?_
          refine VR_ci2 d_Mod_writeAll_297 c_Mod_197 (Mod_boxOf hA hbi hi) ⟨by decide, by decide⟩ rfl (Nat.le_of_ble_eq_true rfl) ?_
          refine V_iload_n d_Mod_writeAll_300 rfl ?_
          refine VR_cv3 d_Mod_writeAll_301 c_Mod_200 (Mod_writeRule hA hi (by omega) hbi hib hs (by omega) hw.2.1 hw.2.2.2 hw.1 hw.2.2.1) ⟨by decide, by decide⟩ rfl (Nat.le_of_ble_eq_true rfl) ?_
          exact WA_304 (s := wru s i (bxo s.1 b i (i - b)) b (wh0 s) (wh1 s)) hK
      · rw [wit, if_neg hnb, if_pos (Classical.not_not.mp h209)] at hK
        obtain ⟨f, hf, hf2⟩ := hch (Classical.not_not.mp h209)
        exact WA_212 hA hi hbi hib hq hq2 hs hb hw hf hf2 hK
    · rw [wit, if_pos ⟨h61, Int32.not_le.mp h72⟩] at hK
      exact WA_75 hA hi hbi hib hq hq2 hs hb hw hK
def wfi : Nat → FS → FS
  | 0, s => s
  | q + 1, s => if gF s.1 33 = 0 then s else wfi q (lea s q)
set_option maxRecDepth 100000 in
set_option maxHeartbeats 4000000 in
theorem WA_310 {l : Launch} {D : va_G} {ac : Nat → ClassId} {o : Nat} {ad : Nat → Nat} {M0 : MP} (hA : rAD o ad) {b n i : Nat} : ∀ (q : Nat) (s : FS), gF s.1 27 = nI q → q ≤ 101 → okf s → s.2 + q ≤ 320000 → V l D (tyl ac) t_Mod_writeAll 0 0 310 [(0, .ref o), (1, .int (nI b)), (2, .int (nI n)), (3, .int (nI b)), (4, .int (nI i))] [] (rM ac o ad (s.1) M0) (fun rv M' => rv = none ∧ M' = rM ac o ad ((wfi q s).1) M0) := by
  intro q
  induction q with
  | zero =>
    intro s hq hq1 hs hb
    refine V_ar_n d_Mod_writeAll_310 rfl ?_
    refine VR_geti d_Mod_writeAll_311 f_Mod_160 (by decide) ?_
    refine V_eqi (show _ = nI 0 from hq) ?_
    refine V_if_le 331 d_Mod_writeAll_314 (by decide) (fun h314 => ?_) (fun h314 => ?_)
    · exact V_return d_Mod_writeAll_331 rfl ⟨rfl, rfl⟩
    · exact absurd (by decide) h314
  | succ q ih =>
    intro s hq hq1 hs hb
    refine V_ar_n d_Mod_writeAll_310 rfl ?_
    refine VR_geti d_Mod_writeAll_311 f_Mod_160 (by decide) ?_
    refine V_eqi (show _ = nI (q + 1) from hq) ?_
    refine V_if_le 331 d_Mod_writeAll_314 (by decide) (fun h314 => ?_) (fun h314 => ?_)
    · exact absurd h314 (nI_nle (by omega) (by omega))
    · refine V_ar_n d_Mod_writeAll_317 rfl ?_
      refine VR_geti d_Mod_writeAll_318 f_Mod_156 (by decide) ?_
      refine V_if_eq 331 d_Mod_writeAll_321 (by decide) (fun h321 => ?_) (fun h321 => ?_)
      · rw [wfi, if_pos h321]
        exact V_return d_Mod_writeAll_331 rfl ⟨rfl, rfl⟩
      · rw [wfi, if_neg h321]
        refine V_ar_n d_Mod_writeAll_324 rfl ?_
        refine VR_cv0 d_Mod_writeAll_325 c_Mod_188 (Mod_leave hA hq (by omega) hs (by omega)) ⟨by decide, by decide⟩ rfl (Nat.le_of_ble_eq_true rfl) ?_
        refine V_goto 310 d_Mod_writeAll_328 (by decide) ?_
        exact ih (lea s q) (lea_27 s q) (by omega) (lea_ok hs q) (show s.2 + 1 + q ≤ 320000 by omega)
def wan (b : Nat) (s : FS) (i : Nat) : FS := wit (wpo i (opq s.1) s) (popq s.1 i (opq s.1)) i b
def wal (b : Nat) : Nat → Nat → FS → FS
  | 0, _, s => s
  | m + 1, i, s => if gF s.1 33 = 0 then s else wal b m (i + 1) (wan b s i)
def wak (s : FS) (i : Nat) : Prop := gF s.1 27 = nI (opq s.1) ∧ opq s.1 ≤ 101 ∧ okf s ∧ s.2 + 200 ≤ 320000 ∧ nwk (wpo i (opq s.1) s) ∧ (gB s.1 1 i = 1 → ∃ f, gB s.1 5 i = nI f ∧ f < 32)
/-- all is in range, item by item, and at the end -/
def waok (b : Nat) : Nat → Nat → FS → Prop
  | 0, _, s => gF s.1 27 = nI (opq s.1) ∧ opq s.1 ≤ 101 ∧ okf s ∧ s.2 + 200 ≤ 320000
  | m + 1, i, s => (gF s.1 33 = 0 ∧ gF s.1 27 = nI (opq s.1) ∧ opq s.1 ≤ 101 ∧ okf s ∧ s.2 + 200 ≤ 320000) ∨ (wak s i ∧ waok b m (i + 1) (wan b s i))
def war (b m i : Nat) (s : FS) : FS := wfi (opq (wal b m i s).1) (wal b m i s)
set_option maxRecDepth 100000 in
set_option maxHeartbeats 4000000 in
theorem WA_10 {l : Launch} {D : va_G} {ac : Nat → ClassId} {o : Nat} {ad : Nat → Nat} {M0 : MP} (hA : rAD o ad) {b n : Nat} (hbn : b + n ≤ 6200) (hn : n ≤ 3100) : ∀ (m i : Nat) (s : FS), i + m = b + n → b ≤ i → waok b m i s → V l D (tyl ac) t_Mod_writeAll 0 0 10 [(0, .ref o), (1, .int (nI b)), (2, .int (nI n)), (3, .int (nI b)), (4, .int (nI i))] [] (rM ac o ad (s.1) M0) (fun rv M' => rv = none ∧ M' = rM ac o ad ((war b m i s).1) M0) := by
  intro m
  induction m with
  | zero =>
    intro i s h1 h2 hok
    refine V_iload d_Mod_writeAll_10 rfl ?_
    refine V_iload_n d_Mod_writeAll_12 rfl ?_
    refine V_iload_n d_Mod_writeAll_13 rfl ?_
    refine V_iadd d_Mod_writeAll_14 ?_
    refine V_eqi (nI_add b n) ?_
    refine V_icmp_ge 310 d_Mod_writeAll_15 (by decide) (fun h15 => ?_) (fun h15 => ?_)
    · exact WA_310 hA (opq s.1) s hok.1 hok.2.1 hok.2.2.1 (by have := hok.2.2.2; have := hok.2.1; omega)
    · exact absurd (nI_le (show b + n ≤ i by omega) (by omega)) h15
  | succ m ih =>
    intro i s h1 h2 hok
    refine V_iload d_Mod_writeAll_10 rfl ?_
    refine V_iload_n d_Mod_writeAll_12 rfl ?_
    refine V_iload_n d_Mod_writeAll_13 rfl ?_
    refine V_iadd d_Mod_writeAll_14 ?_
    refine V_eqi (nI_add b n) ?_
    refine V_icmp_ge 310 d_Mod_writeAll_15 (by decide) (fun h15 => ?_) (fun h15 => ?_)
    · exact absurd h15 (nI_ge (by omega) (by omega))
    · refine V_ar_n d_Mod_writeAll_18 rfl ?_
      refine VR_geti d_Mod_writeAll_19 f_Mod_156 (by decide) ?_
      refine V_if_eq 310 d_Mod_writeAll_22 (by decide) (fun h22 => ?_) (fun h22 => ?_)
      · have hw9 : wal b (m + 1) i s = s := by rw [wal, if_pos h22]
        unfold war
        rw [hw9]
        have hk : gF s.1 27 = nI (opq s.1) ∧ opq s.1 ≤ 101 ∧ okf s ∧ s.2 + 200 ≤ 320000 := hok.elim (fun z => z.2) (fun z => ⟨z.1.1, z.1.2.1, z.1.2.2.1, z.1.2.2.2.1⟩)
        exact WA_310 hA (opq s.1) s hk.1 hk.2.1 hk.2.2.1 (by omega)
      · have hw9 : wal b (m + 1) i s = wal b m (i + 1) (wan b s i) := by rw [wal, if_neg h22]
        unfold war
        rw [hw9]
        obtain ⟨⟨k1, k2, k3, k4, k5, k6⟩, hnx⟩ := hok.resolve_left (fun z => h22 z.1)
        have hpo := wpo_ok i (opq s.1) k3
        have hpl := popq_le s.1 i (opq s.1)
        refine WA_25 hA (opq s.1) s k1 k2 k3 (by omega) ?_
        exact WA_55 (s := wpo i (opq s.1) s) hA (by omega) (by omega) (by omega) (wpo_27 i _ s k1) (by omega) hpo.1 (by omega) k5 (by rw [wpo_B i (k := 1) (by decide) (by decide), wpo_B i (k := 5) (by decide) (by decide)]; exact k6) (ih (i + 1) (wan b s i) (by omega) (by omega) hnx)
set_option maxRecDepth 100000 in
set_option maxHeartbeats 4000000 in
theorem Mod_writeAll {l : Launch} {D : va_G} {ac : Nat → ClassId} {o : Nat} {ad : Nat → Nat} {s : FS} (hA : rAD o ad) {b n : Nat} (hbn : b + n ≤ 6200) (hn : n ≤ 3100) (hok : waok b n b (sF s.1 27 (nI 0), s.2)) : RCv l D ac o ad t_Mod_writeAll [.int (nI b), .int (nI n)] s.1 (war b n b (sF s.1 27 (nI 0), s.2)).1 := fun M0 => by
  refine Ct_of (by decide) (Nat.le_of_ble_eq_true rfl) ?_
  refine V_ar_n d_Mod_writeAll_0 rfl ?_
  refine V_iconst (v := nI 0) d_Mod_writeAll_1 (by decide) ?_
  refine VR_puti d_Mod_writeAll_2 f_Mod_160 (by decide) ?_
  refine V_iload_n d_Mod_writeAll_5 rfl ?_
  refine V_istore_n (lv' := [(3, .int (nI b)), (0, .ref o), (1, .int (nI b)), (2, .int (nI n))]) d_Mod_writeAll_6 (by decide) rfl ?_
  refine V_iload_n d_Mod_writeAll_7 rfl ?_
  refine V_istore (lv' := [(4, .int (nI b)), (3, .int (nI b)), (0, .ref o), (1, .int (nI b)), (2, .int (nI n))]) d_Mod_writeAll_8 (by decide) rfl ?_
  refine V_lv [2, 3, 4, 1, 0] rfl ?_
  exact WA_10 hA hbn hn n b (sF s.1 27 (nI 0), s.2) rfl (Nat.le_refl b) hok
end
section
/-! ship -/
theorem mvd_12 (n : Nat) : ∀ (m : Nat) (r : RS) (i : Nat), gB (mvd n m r i) 12 = gB r 12 := by
  intro m
  induction m with
  | zero => intro r i; rfl
  | succ m ih => intro r i; exact (ih _ _).trans (mv_B _ _ _ (by decide))
set_option maxRecDepth 100000 in
set_option maxHeartbeats 4000000 in
theorem SH_371 {l : Launch} {D : va_G} {ac : Nat → ClassId} {o : Nat} {ad : Nat → Nat} {M0 : MP} {r : RS} (hA : rAD o ad) {k n p m q pl : Nat} {dp : Int32} (hst : stt r k = nI p) (hsz : gB r 12 k = nI m) (hall : 3100 + shv r = nI q) (hpq : p + m ≤ q) (hq : q ≤ 6200) (hk : k < 8) : V l D (tyl ac) t_Mod_ship 0 0 371 [(0, .ref o), (1, .int (nI k)), (2, .int (nI n)), (3, .int dp), (4, .int (nI p)), (5, .int (nI m)), (6, .int (nI pl))] [] (rM ac o ad (r) M0) (fun rv M' => rv = some (.int (if gF r 0 ≤ 0 then gF r 18 else 0)) ∧ M' = rM ac o ad (emp r p m q k) M0) := by
  refine V_ar_n d_Mod_ship_371 rfl ?_
  refine V_iload_n d_Mod_ship_372 rfl ?_
  refine VR_cv1 d_Mod_ship_373 c_Mod_135 (Mod_empty hA hst hsz hall hpq hq hk) ⟨by decide, by decide⟩ rfl (Nat.le_of_ble_eq_true rfl) ?_
  refine V_ar_n d_Mod_ship_376 rfl ?_
  refine VR_geti d_Mod_ship_377 f_Mod_81 (by decide) ?_
  refine V_eqi (show _ = gF r 0 from emp_F r p m q k 0) ?_
  refine V_if_le 387 d_Mod_ship_380 (by decide) (fun h380 => ?_) (fun h380 => ?_)
  · refine V_ar_n d_Mod_ship_387 rfl ?_
    refine VR_geti d_Mod_ship_388 f_Mod_145 (by decide) ?_
    refine V_eqi (show _ = gF r 18 from emp_F r p m q k 18) ?_
    exact V_ireturn d_Mod_ship_391 rfl ⟨by rw [if_pos h380], rfl⟩
  · refine V_iconst (v := 0) d_Mod_ship_383 (by decide) ?_
    refine V_goto 391 d_Mod_ship_384 (by decide) ?_
    exact V_ireturn d_Mod_ship_391 rfl ⟨by rw [if_neg h380], rfl⟩
def ubk : Nat → RS → Nat → RS
  | 0, r, _ => r
  | c + 1, r, j => ubk c (w1 r 16 j (vp_nar .boolean (gB r 15 j))) (j + 1)
def ubr : Nat → RS → Nat → RS
  | 0, r, _ => r
  | c + 1, r, j => ubr c (w1 r 15 j (vp_nar .boolean (gB r 16 j))) (j + 1)
def nz8 : Nat → RS → Nat → RS
  | 0, r, _ => r
  | c + 1, r, j => nz8 c (w1 r 31 j 0) (j + 1)
def zrn : Nat → FS → FS
  | 0, s => s
  | c + 1, s => zrn c (wp s 0 4)
theorem ubk_F (k : Nat) : ∀ (c : Nat) (r : RS) (j : Nat), gF (ubk c r j) k = gF r k := by
  intro c
  induction c with
  | zero => intro r j; rfl
  | succ c ih => intro r j; exact ih _ _
theorem ubk_B {k : Nat} (h : k ≠ 16) : ∀ (c : Nat) (r : RS) (j : Nat), gB (ubk c r j) k = gB r k := by
  intro c
  induction c with
  | zero => intro r j; rfl
  | succ c ih => intro r j; exact (ih _ _).trans (w1_B _ _ _ h)
theorem ubr_F (k : Nat) : ∀ (c : Nat) (r : RS) (j : Nat), gF (ubr c r j) k = gF r k := by
  intro c
  induction c with
  | zero => intro r j; rfl
  | succ c ih => intro r j; exact ih _ _
theorem ubr_B {k : Nat} (h : k ≠ 15) : ∀ (c : Nat) (r : RS) (j : Nat), gB (ubr c r j) k = gB r k := by
  intro c
  induction c with
  | zero => intro r j; rfl
  | succ c ih => intro r j; exact (ih _ _).trans (w1_B _ _ _ h)
theorem nz8_F (k : Nat) : ∀ (c : Nat) (r : RS) (j : Nat), gF (nz8 c r j) k = gF r k := by
  intro c
  induction c with
  | zero => intro r j; rfl
  | succ c ih => intro r j; exact ih _ _
theorem zrn_ok : ∀ (c : Nat) {s : FS}, okf s → okf (zrn c s) := by
  intro c
  induction c with
  | zero => intro s h; exact h
  | succ c ih => intro s h; exact ih (wp_ok h 0 4)
theorem zrn_2 : ∀ (c : Nat) (s : FS), (zrn c s).2 = s.2 + 4 * c := by
  intro c
  induction c with
  | zero => intro s; rfl
  | succ c ih => intro s; show (zrn c (wp s 0 4)).2 = _; rw [ih]; show s.2 + 4 + 4 * c = _; omega
set_option maxRecDepth 100000 in
set_option maxHeartbeats 4000000 in
theorem SH_344 {l : Launch} {D : va_G} {ac : Nat → ClassId} {o : Nat} {ad : Nat → Nat} {M0 : MP} {Q : Option Value → MP → Prop} (hA : rAD o ad) {k n p m pl : Nat} {dp : Int32} : ∀ (c j : Nat) (r : RS), j + c = 32 → V l D (tyl ac) t_Mod_ship 0 0 371 [(0, .ref o), (1, .int (nI k)), (2, .int (nI n)), (3, .int dp), (4, .int (nI p)), (5, .int (nI m)), (6, .int (nI pl))] [] (rM ac o ad (ubr c r j) M0) Q → V l D (tyl ac) t_Mod_ship 0 0 344 [(0, .ref o), (1, .int (nI k)), (2, .int (nI n)), (3, .int dp), (4, .int (nI p)), (5, .int (nI m)), (6, .int (nI pl)), (7, .int (nI j))] [] (rM ac o ad (r) M0) Q := by
  intro c
  induction c with
  | zero =>
    intro j r h1 hK
    refine V_iload d_Mod_ship_344 rfl ?_
    refine V_bipush (v := nI 32) d_Mod_ship_346 (by decide) ?_
    refine V_icmp_ge 371 d_Mod_ship_348 (by decide) (fun h348 => ?_) (fun h348 => ?_)
    · refine V_lv [0, 1, 2, 3, 4, 5, 6] rfl ?_
      exact hK
    · exact absurd (nI_le (show 32 ≤ j by omega) (by omega)) h348
  | succ c ih =>
    intro j r h1 hK
    refine V_iload d_Mod_ship_344 rfl ?_
    refine V_bipush (v := nI 32) d_Mod_ship_346 (by decide) ?_
    refine V_icmp_ge 371 d_Mod_ship_348 (by decide) (fun h348 => ?_) (fun h348 => ?_)
    · exact absurd h348 (nI_ge (by omega) (by decide))
    · refine V_ar_n d_Mod_ship_351 rfl ?_
      refine VR_geta d_Mod_ship_352 f_Mod_47 (by decide) ?_
      refine V_iload d_Mod_ship_355 rfl ?_
      refine V_ar_n d_Mod_ship_357 rfl ?_
      refine VR_geta d_Mod_ship_358 f_Mod_50 (by decide) ?_
      refine V_iload d_Mod_ship_361 rfl ?_
      refine VR_zald hA d_Mod_ship_363 rfl (by omega) (by decide) ?_
      refine VR_zast hA d_Mod_ship_364 rfl (by omega) (by decide) ?_
      refine V_iinc (v := nI (j + 1)) (lv' := [(7, .int (nI (j + 1))), (0, .ref o), (1, .int (nI k)), (2, .int (nI n)), (3, .int dp), (4, .int (nI p)), (5, .int (nI m)), (6, .int (nI pl))]) 7 d_Mod_ship_365 rfl (nI_1 j) (by decide) rfl ?_
      refine V_goto 344 d_Mod_ship_368 (by decide) ?_
      refine V_lv [1, 2, 3, 4, 5, 6, 7, 0] rfl ?_
      exact ih (j + 1) _ (by omega) hK
def shf (r : RS) (n : Nat) (dp : Int32) : RS := ubr 32 (sF (sF (sF r 0 2) 18 (nI n)) 24 dp) 0
set_option maxRecDepth 100000 in
set_option maxHeartbeats 4000000 in
theorem SH_326 {l : Launch} {D : va_G} {ac : Nat → ClassId} {o : Nat} {ad : Nat → Nat} {M0 : MP} {Q : Option Value → MP → Prop} (hA : rAD o ad) {r : RS} {k n p m pl : Nat} {dp : Int32} (hK : V l D (tyl ac) t_Mod_ship 0 0 371 [(0, .ref o), (1, .int (nI k)), (2, .int (nI n)), (3, .int dp), (4, .int (nI p)), (5, .int (nI m)), (6, .int (nI pl))] [] (rM ac o ad (shf r n dp) M0) Q) : V l D (tyl ac) t_Mod_ship 0 0 326 [(0, .ref o), (1, .int (nI k)), (2, .int (nI n)), (3, .int dp), (4, .int (nI p)), (5, .int (nI m)), (6, .int (nI pl))] [] (rM ac o ad (r) M0) Q := by
  refine V_ar_n d_Mod_ship_326 rfl ?_
  refine V_iconst (v := 2) d_Mod_ship_327 (by decide) ?_
  refine VR_puti d_Mod_ship_328 f_Mod_81 (by decide) ?_
  refine V_ar_n d_Mod_ship_331 rfl ?_
  refine V_iload_n d_Mod_ship_332 rfl ?_
  refine VR_puti d_Mod_ship_333 f_Mod_145 (by decide) ?_
  refine V_ar_n d_Mod_ship_336 rfl ?_
  refine V_iload_n d_Mod_ship_337 rfl ?_
  refine VR_puti d_Mod_ship_338 f_Mod_191 (by decide) ?_
  refine V_iconst (v := nI 0) d_Mod_ship_341 (by decide) ?_
  refine V_istore (lv' := [(7, .int (nI 0)), (0, .ref o), (1, .int (nI k)), (2, .int (nI n)), (3, .int dp), (4, .int (nI p)), (5, .int (nI m)), (6, .int (nI pl))]) d_Mod_ship_342 (by decide) rfl ?_
  refine V_lv [1, 2, 3, 4, 5, 6, 7, 0] rfl ?_
  exact SH_344 hA 32 0 _ rfl hK
def shg1 (r : RS) (pl : Nat) : RS := sF (sF r 20 (gF r 20 + 1)) 21 (nI pl)
def shg2 (r : RS) (x : Int64) : RS := sT r (if x ≤ r.2.1 then r.2.1 else x)
def shg3 (r : RS) (p : Nat) : RS := sF r 23 (if gB r 2 p ≤ gF r 23 then gF r 23 else gB r 2 p)
def shg (r : RS) (pl p : Nat) : RS := shg3 (shg2 (shg1 r pl) ((gB r 3 p).toInt64 + (gB r 4 p).toInt64)) p
set_option maxRecDepth 100000 in
set_option maxHeartbeats 4000000 in
theorem SH_233 {l : Launch} {D : va_G} {ac : Nat → ClassId} {o : Nat} {ad : Nat → Nat} {M0 : MP} {Q : Option Value → MP → Prop} (hA : rAD o ad) {r : RS} {k n p m pl : Nat} {dp : Int32} (hp : p < 6200) (hK : V l D (tyl ac) t_Mod_ship 0 0 371 [(0, .ref o), (1, .int (nI k)), (2, .int (nI n)), (3, .int dp), (4, .int (nI p)), (5, .int (nI m)), (6, .int (nI pl))] [] (rM ac o ad (shg r pl p) M0) Q) : V l D (tyl ac) t_Mod_ship 0 0 233 [(0, .ref o), (1, .int (nI k)), (2, .int (nI n)), (3, .int dp), (4, .int (nI p)), (5, .int (nI m)), (6, .int (nI pl))] [] (rM ac o ad (r) M0) Q := by
  refine V_ar_n d_Mod_ship_233 rfl ?_
  refine V_dup d_Mod_ship_234 rfl ?_
  refine VR_geti d_Mod_ship_235 f_Mod_214 (by decide) ?_
  refine V_iconst (v := 1) d_Mod_ship_238 (by decide) ?_
  refine V_iadd d_Mod_ship_239 ?_
  refine VR_puti d_Mod_ship_240 f_Mod_214 (by decide) ?_
  refine V_ar_n d_Mod_ship_243 rfl ?_
  refine V_iload d_Mod_ship_244 rfl ?_
  refine VR_puti d_Mod_ship_246 f_Mod_58 (by decide) ?_
  refine V_ar_n d_Mod_ship_249 rfl ?_
  refine VR_geta d_Mod_ship_250 f_Mod_16 (by decide) ?_
  refine V_iload d_Mod_ship_253 rfl ?_
  refine VR_iald hA d_Mod_ship_255 rfl (by omega) (by decide) ?_
  refine V_i2l d_Mod_ship_256 ?_
  refine V_ar_n d_Mod_ship_257 rfl ?_
  refine VR_geta d_Mod_ship_258 f_Mod_19 (by decide) ?_
  refine V_iload d_Mod_ship_261 rfl ?_
  refine VR_iald hA d_Mod_ship_263 rfl (by omega) (by decide) ?_
  refine V_i2l d_Mod_ship_264 ?_
  refine V_ladd d_Mod_ship_265 ?_
  refine V_lstore (lv' := [(7, .long ((gB r 3 p).toInt64 + (gB r 4 p).toInt64)), (0, .ref o), (1, .int (nI k)), (2, .int (nI n)), (3, .int dp), (4, .int (nI p)), (5, .int (nI m)), (6, .int (nI pl))]) d_Mod_ship_266 (by decide) rfl ?_
  refine V_ar_n d_Mod_ship_268 rfl ?_
  refine V_lload d_Mod_ship_269 rfl ?_
  refine V_ar_n d_Mod_ship_271 rfl ?_
  refine VR_getT d_Mod_ship_272 f_Mod_220 ?_
  refine V_lcmp d_Mod_ship_275 ?_
  refine V_if_le 284 d_Mod_ship_276 (by decide) (fun h276 => ?_) (fun h276 => ?_)
  · refine V_ar_n d_Mod_ship_284 rfl ?_
    refine VR_getT d_Mod_ship_285 f_Mod_220 ?_
    refine V_eql (show _ = (if (gB r 3 p).toInt64 + (gB r 4 p).toInt64 ≤ (shg1 r pl).2.1 then (shg1 r pl).2.1 else (gB r 3 p).toInt64 + (gB r 4 p).toInt64) from (if_pos ((lg_cmp_le _ _).mp h276)).symm) ?_
    refine VR_putT d_Mod_ship_288 f_Mod_220 ?_
    refine V_ar_n d_Mod_ship_291 rfl ?_
    refine V_ar_n d_Mod_ship_292 rfl ?_
    refine VR_geta d_Mod_ship_293 f_Mod_13 (by decide) ?_
    refine V_iload d_Mod_ship_296 rfl ?_
    refine VR_iald hA d_Mod_ship_298 rfl (by omega) (by decide) ?_
    refine V_ar_n d_Mod_ship_299 rfl ?_
    refine VR_geti d_Mod_ship_300 f_Mod_224 (by decide) ?_
    refine V_icmp_le 316 d_Mod_ship_303 (by decide) (fun h303 => ?_) (fun h303 => ?_)
    · refine V_ar_n d_Mod_ship_316 rfl ?_
      refine VR_geti d_Mod_ship_317 f_Mod_224 (by decide) ?_
      refine V_eqi (show _ = (if gB (shg2 (shg1 r pl) ((gB r 3 p).toInt64 + (gB r 4 p).toInt64)) 2 p ≤ gF (shg2 (shg1 r pl) ((gB r 3 p).toInt64 + (gB r 4 p).toInt64)) 23 then gF (shg2 (shg1 r pl) ((gB r 3 p).toInt64 + (gB r 4 p).toInt64)) 23 else gB (shg2 (shg1 r pl) ((gB r 3 p).toInt64 + (gB r 4 p).toInt64)) 2 p) from (if_pos h303).symm) ?_
      refine VR_puti d_Mod_ship_320 f_Mod_224 (by decide) ?_
      refine V_goto 371 d_Mod_ship_323 (by decide) ?_
      refine V_lv [1, 2, 3, 4, 5, 6, 7] rfl ?_
      exact hK
    · refine V_ar_n d_Mod_ship_306 rfl ?_
      refine VR_geta d_Mod_ship_307 f_Mod_13 (by decide) ?_
      refine V_iload d_Mod_ship_310 rfl ?_
      refine VR_iald hA d_Mod_ship_312 rfl (by omega) (by decide) ?_
      refine V_goto 320 d_Mod_ship_313 (by decide) ?_
      refine V_eqi (show _ = (if gB (shg2 (shg1 r pl) ((gB r 3 p).toInt64 + (gB r 4 p).toInt64)) 2 p ≤ gF (shg2 (shg1 r pl) ((gB r 3 p).toInt64 + (gB r 4 p).toInt64)) 23 then gF (shg2 (shg1 r pl) ((gB r 3 p).toInt64 + (gB r 4 p).toInt64)) 23 else gB (shg2 (shg1 r pl) ((gB r 3 p).toInt64 + (gB r 4 p).toInt64)) 2 p) from (if_neg h303).symm) ?_
      refine VR_puti d_Mod_ship_320 f_Mod_224 (by decide) ?_
      refine V_goto 371 d_Mod_ship_323 (by decide) ?_
      refine V_lv [1, 2, 3, 4, 5, 6, 7] rfl ?_
      exact hK
  · refine V_lload d_Mod_ship_279 rfl ?_
    refine V_goto 288 d_Mod_ship_281 (by decide) ?_
    refine V_eql (show _ = (if (gB r 3 p).toInt64 + (gB r 4 p).toInt64 ≤ (shg1 r pl).2.1 then (shg1 r pl).2.1 else (gB r 3 p).toInt64 + (gB r 4 p).toInt64) from (if_neg (fun z => h276 ((lg_cmp_le _ _).mpr z))).symm) ?_
    refine VR_putT d_Mod_ship_288 f_Mod_220 ?_
    refine V_ar_n d_Mod_ship_291 rfl ?_
    refine V_ar_n d_Mod_ship_292 rfl ?_
    refine VR_geta d_Mod_ship_293 f_Mod_13 (by decide) ?_
    refine V_iload d_Mod_ship_296 rfl ?_
    refine VR_iald hA d_Mod_ship_298 rfl (by omega) (by decide) ?_
    refine V_ar_n d_Mod_ship_299 rfl ?_
    refine VR_geti d_Mod_ship_300 f_Mod_224 (by decide) ?_
    refine V_icmp_le 316 d_Mod_ship_303 (by decide) (fun h303 => ?_) (fun h303 => ?_)
    · refine V_ar_n d_Mod_ship_316 rfl ?_
      refine VR_geti d_Mod_ship_317 f_Mod_224 (by decide) ?_
      refine V_eqi (show _ = (if gB (shg2 (shg1 r pl) ((gB r 3 p).toInt64 + (gB r 4 p).toInt64)) 2 p ≤ gF (shg2 (shg1 r pl) ((gB r 3 p).toInt64 + (gB r 4 p).toInt64)) 23 then gF (shg2 (shg1 r pl) ((gB r 3 p).toInt64 + (gB r 4 p).toInt64)) 23 else gB (shg2 (shg1 r pl) ((gB r 3 p).toInt64 + (gB r 4 p).toInt64)) 2 p) from (if_pos h303).symm) ?_
      refine VR_puti d_Mod_ship_320 f_Mod_224 (by decide) ?_
      refine V_goto 371 d_Mod_ship_323 (by decide) ?_
      refine V_lv [1, 2, 3, 4, 5, 6, 7] rfl ?_
      exact hK
    · refine V_ar_n d_Mod_ship_306 rfl ?_
      refine VR_geta d_Mod_ship_307 f_Mod_13 (by decide) ?_
      refine V_iload d_Mod_ship_310 rfl ?_
      refine VR_iald hA d_Mod_ship_312 rfl (by omega) (by decide) ?_
      refine V_goto 320 d_Mod_ship_313 (by decide) ?_
      refine V_eqi (show _ = (if gB (shg2 (shg1 r pl) ((gB r 3 p).toInt64 + (gB r 4 p).toInt64)) 2 p ≤ gF (shg2 (shg1 r pl) ((gB r 3 p).toInt64 + (gB r 4 p).toInt64)) 23 then gF (shg2 (shg1 r pl) ((gB r 3 p).toInt64 + (gB r 4 p).toInt64)) 23 else gB (shg2 (shg1 r pl) ((gB r 3 p).toInt64 + (gB r 4 p).toInt64)) 2 p) from (if_neg h303).symm) ?_
      refine VR_puti d_Mod_ship_320 f_Mod_224 (by decide) ?_
      refine V_goto 371 d_Mod_ship_323 (by decide) ?_
      refine V_lv [1, 2, 3, 4, 5, 6, 7] rfl ?_
      exact hK
def she (s : FS) (n pl p : Nat) (dp : Int32) : RS := if gF (wp s 140 1).1 33 = 0 then shf (wp s 140 1).1 n dp else shg (wp s 140 1).1 pl p
set_option maxRecDepth 100000 in
set_option maxHeartbeats 4000000 in
theorem SH_218 {l : Launch} {D : va_G} {ac : Nat → ClassId} {o : Nat} {ad : Nat → Nat} {M0 : MP} {Q : Option Value → MP → Prop} (hA : rAD o ad) {s : FS} {k n p m pl : Nat} {dp : Int32} (hp : p < 6200) (hs : okf s) (hb : s.2 + 1 ≤ 320000) (hK : V l D (tyl ac) t_Mod_ship 0 0 371 [(0, .ref o), (1, .int (nI k)), (2, .int (nI n)), (3, .int dp), (4, .int (nI p)), (5, .int (nI m)), (6, .int (nI pl))] [] (rM ac o ad (she s n pl p dp) M0) Q) : V l D (tyl ac) t_Mod_ship 0 0 218 [(0, .ref o), (1, .int (nI k)), (2, .int (nI n)), (3, .int dp), (4, .int (nI p)), (5, .int (nI m)), (6, .int (nI pl))] [] (rM ac o ad (s.1) M0) Q := by
  refine V_ar_n d_Mod_ship_218 rfl ?_
  refine V_sipush (v := 140) d_Mod_ship_219 (by decide) ?_
  refine V_iconst (v := nI 1) d_Mod_ship_222 (by decide) ?_
  refine VR_cv2 d_Mod_ship_223 c_Mod_149 (Mod_write hA _ (hs) (by decide) (by omega)) ⟨by decide, by decide⟩ rfl (Nat.le_of_ble_eq_true rfl) ?_
  refine V_ar_n d_Mod_ship_226 rfl ?_
  refine VR_geti d_Mod_ship_227 f_Mod_156 (by decide) ?_
  refine V_if_eq 326 d_Mod_ship_230 (by decide) (fun h230 => ?_) (fun h230 => ?_)
  · rw [she, if_pos (show gF (wp s 140 1).1 33 = 0 from h230)] at hK
    exact SH_326 hA hK
  · rw [she, if_neg (show ¬ gF (wp s 140 1).1 33 = 0 from h230)] at hK
    exact SH_233 hA hp hK
def shw (s : FS) (p m : Nat) : FS := if gF s.1 33 = 0 then s else war p m p (sF s.1 27 (nI 0), s.2)
set_option maxRecDepth 100000 in
set_option maxHeartbeats 4000000 in
theorem SH_203 {l : Launch} {D : va_G} {ac : Nat → ClassId} {o : Nat} {ad : Nat → Nat} {M0 : MP} {Q : Option Value → MP → Prop} (hA : rAD o ad) {s : FS} {k n p m pl : Nat} {dp : Int32} (hp : p < 6200) (hpm : p + m ≤ 6200) (hm : m ≤ 3100) (hok : ¬ gF s.1 33 = 0 → waok p m p (sF s.1 27 (nI 0), s.2)) (hs2 : okf (shw s p m)) (hb : (shw s p m).2 + 1 ≤ 320000) (hK : V l D (tyl ac) t_Mod_ship 0 0 371 [(0, .ref o), (1, .int (nI k)), (2, .int (nI n)), (3, .int dp), (4, .int (nI p)), (5, .int (nI m)), (6, .int (nI pl))] [] (rM ac o ad (she (shw s p m) n pl p dp) M0) Q) : V l D (tyl ac) t_Mod_ship 0 0 203 [(0, .ref o), (1, .int (nI k)), (2, .int (nI n)), (3, .int dp), (4, .int (nI p)), (5, .int (nI m)), (6, .int (nI pl))] [] (rM ac o ad (s.1) M0) Q := by
  refine V_ar_n d_Mod_ship_203 rfl ?_
  refine VR_geti d_Mod_ship_204 f_Mod_156 (by decide) ?_
  refine V_if_eq 218 d_Mod_ship_207 (by decide) (fun h207 => ?_) (fun h207 => ?_)
  · rw [shw, if_pos h207] at hs2 hb hK
    exact SH_218 hA hp hs2 hb hK
  · rw [shw, if_neg h207] at hs2 hb hK
    refine V_ar_n d_Mod_ship_210 rfl ?_
    refine V_iload d_Mod_ship_211 rfl ?_
    refine V_iload d_Mod_ship_213 rfl ?_
    refine VR_cv2 d_Mod_ship_215 c_Mod_217 (Mod_writeAll hA hpm hm (hok h207)) ⟨by decide, by decide⟩ rfl (Nat.le_of_ble_eq_true rfl) ?_
    generalize war p m p (sF s.1 27 (nI 0), s.2) = G at hs2 hb hK ⊢
    exact SH_218 hA hp hs2 hb hK
set_option maxRecDepth 100000 in
set_option maxHeartbeats 4000000 in
theorem SH_177 {l : Launch} {D : va_G} {ac : Nat → ClassId} {o : Nat} {ad : Nat → Nat} {M0 : MP} {Q : Option Value → MP → Prop} (hA : rAD o ad) {k n p m pl : Nat} {dp : Int32} : ∀ (c j : Nat) (r : RS), j + c = 8 → V l D (tyl ac) t_Mod_ship 0 0 198 [(0, .ref o), (1, .int (nI k)), (2, .int (nI n)), (3, .int dp), (4, .int (nI p)), (5, .int (nI m)), (6, .int (nI pl))] [] (rM ac o ad (nz8 c r j) M0) Q → V l D (tyl ac) t_Mod_ship 0 0 177 [(0, .ref o), (1, .int (nI k)), (2, .int (nI n)), (3, .int dp), (4, .int (nI p)), (5, .int (nI m)), (6, .int (nI pl)), (7, .int (nI j))] [] (rM ac o ad (r) M0) Q := by
  intro c
  induction c with
  | zero =>
    intro j r h1 hK
    refine V_iload d_Mod_ship_177 rfl ?_
    refine V_bipush (v := nI 8) d_Mod_ship_179 (by decide) ?_
    refine V_icmp_ge 198 d_Mod_ship_181 (by decide) (fun h181 => ?_) (fun h181 => ?_)
    · refine V_lv [0, 1, 2, 3, 4, 5, 6] rfl ?_
      exact hK
    · exact absurd (nI_le (show 8 ≤ j by omega) (by omega)) h181
  | succ c ih =>
    intro j r h1 hK
    refine V_iload d_Mod_ship_177 rfl ?_
    refine V_bipush (v := nI 8) d_Mod_ship_179 (by decide) ?_
    refine V_icmp_ge 198 d_Mod_ship_181 (by decide) (fun h181 => ?_) (fun h181 => ?_)
    · exact absurd h181 (nI_ge (by omega) (by decide))
    · refine V_ar_n d_Mod_ship_184 rfl ?_
      refine VR_geta d_Mod_ship_185 f_Mod_78 (by decide) ?_
      refine V_iload d_Mod_ship_188 rfl ?_
      refine V_iconst (v := 0) d_Mod_ship_190 (by decide) ?_
      refine VR_iast hA d_Mod_ship_191 rfl (by omega) (by decide) ?_
      refine V_iinc (v := nI (j + 1)) (lv' := [(7, .int (nI (j + 1))), (0, .ref o), (1, .int (nI k)), (2, .int (nI n)), (3, .int dp), (4, .int (nI p)), (5, .int (nI m)), (6, .int (nI pl))]) 7 d_Mod_ship_192 rfl (nI_1 j) (by decide) rfl ?_
      refine V_goto 177 d_Mod_ship_195 (by decide) ?_
      refine V_lv [1, 2, 3, 4, 5, 6, 7, 0] rfl ?_
      exact ih (j + 1) _ (by omega) hK
set_option maxRecDepth 100000 in
set_option maxHeartbeats 4000000 in
theorem SH_146 {l : Launch} {D : va_G} {ac : Nat → ClassId} {o : Nat} {ad : Nat → Nat} {M0 : MP} {Q : Option Value → MP → Prop} (hA : rAD o ad) {k n p m pl : Nat} {dp : Int32} : ∀ (c j : Nat) (s : FS), j + c = 9 → okf s → s.2 + 4 * c ≤ 320000 → V l D (tyl ac) t_Mod_ship 0 0 165 [(0, .ref o), (1, .int (nI k)), (2, .int (nI n)), (3, .int dp), (4, .int (nI p)), (5, .int (nI m)), (6, .int (nI pl))] [] (rM ac o ad ((zrn c s).1) M0) Q → V l D (tyl ac) t_Mod_ship 0 0 146 [(0, .ref o), (1, .int (nI k)), (2, .int (nI n)), (3, .int dp), (4, .int (nI p)), (5, .int (nI m)), (6, .int (nI pl)), (7, .int (nI j))] [] (rM ac o ad (s.1) M0) Q := by
  intro c
  induction c with
  | zero =>
    intro j s h1 hs hb hK
    refine V_iload d_Mod_ship_146 rfl ?_
    refine V_bipush (v := nI 9) d_Mod_ship_148 (by decide) ?_
    refine V_icmp_ge 165 d_Mod_ship_150 (by decide) (fun h150 => ?_) (fun h150 => ?_)
    · refine V_lv [0, 1, 2, 3, 4, 5, 6] rfl ?_
      exact hK
    · exact absurd (nI_le (show 9 ≤ j by omega) (by omega)) h150
  | succ c ih =>
    intro j s h1 hs hb hK
    refine V_iload d_Mod_ship_146 rfl ?_
    refine V_bipush (v := nI 9) d_Mod_ship_148 (by decide) ?_
    refine V_icmp_ge 165 d_Mod_ship_150 (by decide) (fun h150 => ?_) (fun h150 => ?_)
    · exact absurd h150 (nI_ge (by omega) (by decide))
    · refine V_ar_n d_Mod_ship_153 rfl ?_
      refine V_iconst (v := 0) d_Mod_ship_154 (by decide) ?_
      refine V_iconst (v := nI 4) d_Mod_ship_155 (by decide) ?_
      refine VR_cv2 d_Mod_ship_156 c_Mod_149 (Mod_write hA _ (hs) (by decide) (by omega)) ⟨by decide, by decide⟩ rfl (Nat.le_of_ble_eq_true rfl) ?_
      refine V_iinc (v := nI (j + 1)) (lv' := [(7, .int (nI (j + 1))), (0, .ref o), (1, .int (nI k)), (2, .int (nI n)), (3, .int dp), (4, .int (nI p)), (5, .int (nI m)), (6, .int (nI pl))]) 7 d_Mod_ship_159 rfl (nI_1 j) (by decide) rfl ?_
      refine V_goto 146 d_Mod_ship_162 (by decide) ?_
      refine V_lv [1, 2, 3, 4, 5, 6, 7, 0] rfl ?_
      exact ih (j + 1) (wp s 0 4) (by omega) (wp_ok hs 0 4) (show s.2 + 4 + 4 * c ≤ 320000 by omega) hK
def shn (s : FS) : FS := (sF (nz8 8 (wp s (gF s.1 21) 4).1 0) 32 (-1), s.2 + 4)
theorem sF_ne (r : RS) {k j : Nat} (v : Int32) (h : j ≠ k) : gF (sF r k v) j = gF r j := va_up_ne _ _ h
theorem shn_ok {s : FS} (h : okf s) : okf (shn s) := (sF_ne (nz8 8 (wp s (gF s.1 21) 4).1 0) (-1) (show (18 : Nat) ≠ 32 by decide)).trans ((nz8_F 18 8 (wp s (gF s.1 21) 4).1 0).trans (wp_ok h (gF s.1 21) 4))
set_option maxRecDepth 100000 in
set_option maxHeartbeats 4000000 in
theorem SH_165 {l : Launch} {D : va_G} {ac : Nat → ClassId} {o : Nat} {ad : Nat → Nat} {M0 : MP} {Q : Option Value → MP → Prop} (hA : rAD o ad) {s : FS} {k n p m pl : Nat} {dp : Int32} (hs : okf s) (hb : s.2 + 4 ≤ 320000) (hK : V l D (tyl ac) t_Mod_ship 0 0 203 [(0, .ref o), (1, .int (nI k)), (2, .int (nI n)), (3, .int dp), (4, .int (nI p)), (5, .int (nI m)), (6, .int (nI pl))] [] (rM ac o ad ((shn s).1) M0) Q) : V l D (tyl ac) t_Mod_ship 0 0 165 [(0, .ref o), (1, .int (nI k)), (2, .int (nI n)), (3, .int dp), (4, .int (nI p)), (5, .int (nI m)), (6, .int (nI pl))] [] (rM ac o ad (s.1) M0) Q := by
  refine V_ar_n d_Mod_ship_165 rfl ?_
  refine V_ar_n d_Mod_ship_166 rfl ?_
  refine VR_geti d_Mod_ship_167 f_Mod_58 (by decide) ?_
  refine V_iconst (v := nI 4) d_Mod_ship_170 (by decide) ?_
  refine VR_cv2 d_Mod_ship_171 c_Mod_149 (Mod_write hA _ (hs) (by decide) (by omega)) ⟨by decide, by decide⟩ rfl (Nat.le_of_ble_eq_true rfl) ?_
  refine V_iconst (v := nI 0) d_Mod_ship_174 (by decide) ?_
  refine V_istore (lv' := [(7, .int (nI 0)), (0, .ref o), (1, .int (nI k)), (2, .int (nI n)), (3, .int dp), (4, .int (nI p)), (5, .int (nI m)), (6, .int (nI pl))]) d_Mod_ship_175 (by decide) rfl ?_
  refine V_lv [1, 2, 3, 4, 5, 6, 7, 0] rfl ?_
  refine SH_177 hA 8 0 _ rfl ?_
  refine V_ar_n d_Mod_ship_198 rfl ?_
  refine V_iconst (v := (-1)) d_Mod_ship_199 (by decide) ?_
  refine VR_puti d_Mod_ship_200 f_Mod_182 (by decide) ?_
  exact hK
def shp (s : FS) : FS := shn (zrn 9 (wp (wp s 139 1) (gF s.1 20 + 1) 4))
set_option maxRecDepth 100000 in
set_option maxHeartbeats 4000000 in
theorem SH_118 {l : Launch} {D : va_G} {ac : Nat → ClassId} {o : Nat} {ad : Nat → Nat} {M0 : MP} {Q : Option Value → MP → Prop} (hA : rAD o ad) {s : FS} {k n p m : Nat} {dp : Int32} (hs : okf s) (hb : s.2 + 50 ≤ 320000) (hK : V l D (tyl ac) t_Mod_ship 0 0 203 [(0, .ref o), (1, .int (nI k)), (2, .int (nI n)), (3, .int dp), (4, .int (nI p)), (5, .int (nI m)), (6, .int (nI s.2))] [] (rM ac o ad ((shp s).1) M0) Q) : V l D (tyl ac) t_Mod_ship 0 0 118 [(0, .ref o), (1, .int (nI k)), (2, .int (nI n)), (3, .int dp), (4, .int (nI p)), (5, .int (nI m))] [] (rM ac o ad (s.1) M0) Q := by
  refine V_ar_n d_Mod_ship_118 rfl ?_
  refine VR_geti d_Mod_ship_119 f_Mod_145 (by decide) ?_
  refine V_eqi (show _ = nI s.2 from hs) ?_
  refine V_istore (lv' := [(6, .int (nI s.2)), (0, .ref o), (1, .int (nI k)), (2, .int (nI n)), (3, .int dp), (4, .int (nI p)), (5, .int (nI m))]) d_Mod_ship_122 (by decide) rfl ?_
  refine V_ar_n d_Mod_ship_124 rfl ?_
  refine V_sipush (v := 139) d_Mod_ship_125 (by decide) ?_
  refine V_iconst (v := nI 1) d_Mod_ship_128 (by decide) ?_
  refine VR_cv2 d_Mod_ship_129 c_Mod_149 (Mod_write hA _ (hs) (by decide) (by omega)) ⟨by decide, by decide⟩ rfl (Nat.le_of_ble_eq_true rfl) ?_
  refine V_ar_n d_Mod_ship_132 rfl ?_
  refine V_ar_n d_Mod_ship_133 rfl ?_
  refine VR_geti d_Mod_ship_134 f_Mod_214 (by decide) ?_
  refine V_eqi (show _ = gF s.1 20 from wrt_F (by decide) _ _ _ _) ?_
  refine V_iconst (v := 1) d_Mod_ship_137 (by decide) ?_
  refine V_iadd d_Mod_ship_138 ?_
  refine V_iconst (v := nI 4) d_Mod_ship_139 (by decide) ?_
  refine VR_cv2 d_Mod_ship_140 c_Mod_149 (Mod_write hA _ (wrt_len 1 hs) (by decide) (by omega)) ⟨by decide, by decide⟩ rfl (Nat.le_of_ble_eq_true rfl) ?_
  refine V_iconst (v := nI 0) d_Mod_ship_143 (by decide) ?_
  refine V_istore (lv' := [(7, .int (nI 0)), (6, .int (nI s.2)), (0, .ref o), (1, .int (nI k)), (2, .int (nI n)), (3, .int dp), (4, .int (nI p)), (5, .int (nI m))]) d_Mod_ship_144 (by decide) rfl ?_
  refine V_lv [2, 3, 4, 5, 6, 7, 1, 0] rfl ?_
  have ho := wp_ok (wp_ok hs 139 1) (gF s.1 20 + 1) 4
  have h2 : (wp (wp s 139 1) (gF s.1 20 + 1) 4).2 = s.2 + 5 := rfl
  refine SH_146 hA 9 0 (wp (wp s 139 1) (gF s.1 20 + 1) 4) rfl ho (by omega) ?_
  have hz := zrn_2 9 (wp (wp s 139 1) (gF s.1 20 + 1) 4)
  exact SH_165 hA (zrn_ok 9 ho) (by omega) hK
set_option maxRecDepth 100000 in
set_option maxHeartbeats 4000000 in
theorem SH_59 {l : Launch} {D : va_G} {ac : Nat → ClassId} {o : Nat} {ad : Nat → Nat} {M0 : MP} {Q : Option Value → MP → Prop} (hA : rAD o ad) {k n : Nat} {dp : Int32} : ∀ (c j : Nat) (r : RS), j + c = 32 → V l D (tyl ac) t_Mod_ship 0 0 86 [(0, .ref o), (1, .int (nI k)), (2, .int (nI n)), (3, .int dp)] [] (rM ac o ad (ubk c r j) M0) Q → V l D (tyl ac) t_Mod_ship 0 0 59 [(0, .ref o), (1, .int (nI k)), (2, .int (nI n)), (3, .int dp), (4, .int (nI j))] [] (rM ac o ad (r) M0) Q := by
  intro c
  induction c with
  | zero =>
    intro j r h1 hK
    refine V_iload d_Mod_ship_59 rfl ?_
    refine V_bipush (v := nI 32) d_Mod_ship_61 (by decide) ?_
    refine V_icmp_ge 86 d_Mod_ship_63 (by decide) (fun h63 => ?_) (fun h63 => ?_)
    · refine V_lv [0, 1, 2, 3] rfl ?_
      exact hK
    · exact absurd (nI_le (show 32 ≤ j by omega) (by omega)) h63
  | succ c ih =>
    intro j r h1 hK
    refine V_iload d_Mod_ship_59 rfl ?_
    refine V_bipush (v := nI 32) d_Mod_ship_61 (by decide) ?_
    refine V_icmp_ge 86 d_Mod_ship_63 (by decide) (fun h63 => ?_) (fun h63 => ?_)
    · exact absurd h63 (nI_ge (by omega) (by decide))
    · refine V_ar_n d_Mod_ship_66 rfl ?_
      refine VR_geta d_Mod_ship_67 f_Mod_50 (by decide) ?_
      refine V_iload d_Mod_ship_70 rfl ?_
      refine V_ar_n d_Mod_ship_72 rfl ?_
      refine VR_geta d_Mod_ship_73 f_Mod_47 (by decide) ?_
      refine V_iload d_Mod_ship_76 rfl ?_
      refine VR_zald hA d_Mod_ship_78 rfl (by omega) (by decide) ?_
      refine VR_zast hA d_Mod_ship_79 rfl (by omega) (by decide) ?_
      refine V_iinc (v := nI (j + 1)) (lv' := [(4, .int (nI (j + 1))), (0, .ref o), (1, .int (nI k)), (2, .int (nI n)), (3, .int dp)]) 4 d_Mod_ship_80 rfl (nI_1 j) (by decide) rfl ?_
      refine V_goto 59 d_Mod_ship_83 (by decide) ?_
      refine V_lv [1, 2, 3, 4, 0] rfl ?_
      exact ih (j + 1) _ (by omega) hK
end
