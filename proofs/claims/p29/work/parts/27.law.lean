-- the law's decode rows on this road, its state at its loop's head, its end with the heap told
def R_law : String := "RopeVotesLaw"
theorem d_law_0 : decode code 0 = .ok (.new 10, 3) := by decide +kernel
theorem d_law_3 : decode code 3 = .ok (.dup, 1) := by decide +kernel
theorem d_law_4 : decode code 4 = .ok (.invokespecial 68, 3) := by decide +kernel
theorem d_law_7 : decode code 7 = .ok (.astore_n 1, 1) := by decide +kernel
theorem d_law_8 : decode code 8 = .ok (.iconst 0, 1) := by decide +kernel
theorem d_law_9 : decode code 9 = .ok (.istore_n 2, 1) := by decide +kernel
theorem d_law_10 : decode code 10 = .ok (.iconst 0, 1) := by decide +kernel
theorem d_law_11 : decode code 11 = .ok (.istore_n 3, 1) := by decide +kernel
theorem d_law_12 : decode code 12 = .ok (.iconst 0, 1) := by decide +kernel
theorem d_law_13 : decode code 13 = .ok (.istore 4, 2) := by decide +kernel
theorem d_law_15 : decode code 15 = .ok (.iconst 0, 1) := by decide +kernel
theorem d_law_16 : decode code 16 = .ok (.istore 5, 2) := by decide +kernel
theorem d_law_18 : decode code 18 = .ok (.aload_n 1, 1) := by decide +kernel
theorem d_law_19 : decode code 19 = .ok (.invokestatic 69, 3) := by decide +kernel
theorem d_law_22 : decode code 22 = .ok (.ifCond .eq 22, 3) := by decide +kernel
theorem d_law_25 : decode code 25 = .ok (.aload_n 1, 1) := by decide +kernel
theorem d_law_26 : decode code 26 = .ok (.iconst 0, 1) := by decide +kernel
theorem d_law_27 : decode code 27 = .ok (.invokestatic 73, 3) := by decide +kernel
theorem d_law_30 : decode code 30 = .ok (.ifCond .eq 14, 3) := by decide +kernel
theorem d_law_33 : decode code 33 = .ok (.aload_n 1, 1) := by decide +kernel
theorem d_law_34 : decode code 34 = .ok (.invokevirtual 76, 3) := by decide +kernel
theorem d_law_37 : decode code 37 = .ok (.ifCond .ne 7, 3) := by decide +kernel
theorem d_law_40 : decode code 40 = .ok (.iconst 1, 1) := by decide +kernel
theorem d_law_41 : decode code 41 = .ok (.goto 4, 3) := by decide +kernel
theorem d_law_45 : decode code 45 = .ok (.istore 6, 2) := by decide +kernel
theorem d_law_47 : decode code 47 = .ok (.bipush 6, 2) := by decide +kernel
theorem d_law_49 : decode code 49 = .ok (.aload_n 0, 1) := by decide +kernel
theorem d_law_50 : decode code 50 = .ok (.iconst 0, 1) := by decide +kernel
theorem d_law_51 : decode code 51 = .ok (.invokestatic 79, 3) := by decide +kernel
theorem d_law_54 : decode code 54 = .ok (.bipush 55, 2) := by decide +kernel
theorem d_law_56 : decode code 56 = .ok (.invokestatic 83, 3) := by decide +kernel
theorem d_law_59 : decode code 59 = .ok (.iadd, 1) := by decide +kernel
theorem d_law_60 : decode code 60 = .ok (.istore 7, 2) := by decide +kernel
theorem d_law_62 : decode code 62 = .ok (.iconst 0, 1) := by decide +kernel
theorem d_law_63 : decode code 63 = .ok (.istore 8, 2) := by decide +kernel
theorem d_law_65 : decode code 65 = .ok (.iload 8, 2) := by decide +kernel
theorem d_law_67 : decode code 67 = .ok (.iload 7, 2) := by decide +kernel
theorem d_law_69 : decode code 69 = .ok (.if_icmp .ge 842, 3) := by decide +kernel
theorem d_law_72 : decode code 72 = .ok (.iload 6, 2) := by decide +kernel
theorem d_law_74 : decode code 74 = .ok (.ifCond .eq 837, 3) := by decide +kernel
theorem d_law_77 : decode code 77 = .ok (.aload_n 0, 1) := by decide +kernel
theorem d_law_78 : decode code 78 = .ok (.iconst 1, 1) := by decide +kernel
theorem d_law_79 : decode code 79 = .ok (.iload 8, 2) := by decide +kernel
theorem d_law_81 : decode code 81 = .ok (.iadd, 1) := by decide +kernel
theorem d_law_82 : decode code 82 = .ok (.invokestatic 79, 3) := by decide +kernel
theorem d_law_85 : decode code 85 = .ok (.istore 9, 2) := by decide +kernel
theorem d_law_87 : decode code 87 = .ok (.iload 9, 2) := by decide +kernel
theorem d_law_89 : decode code 89 = .ok (.iconst 3, 1) := by decide +kernel
theorem d_law_90 : decode code 90 = .ok (.ishr, 1) := by decide +kernel
theorem d_law_91 : decode code 91 = .ok (.bipush 7, 2) := by decide +kernel
theorem d_law_93 : decode code 93 = .ok (.invokestatic 83, 3) := by decide +kernel
theorem d_law_96 : decode code 96 = .ok (.istore 10, 2) := by decide +kernel
theorem d_law_98 : decode code 98 = .ok (.iload_n 2, 1) := by decide +kernel
theorem d_law_99 : decode code 99 = .ok (.ifCond .ne 7, 3) := by decide +kernel
theorem d_law_102 : decode code 102 = .ok (.iconst 0, 1) := by decide +kernel
theorem d_law_103 : decode code 103 = .ok (.goto 12, 3) := by decide +kernel
theorem d_law_106 : decode code 106 = .ok (.iload 9, 2) := by decide +kernel
theorem d_law_108 : decode code 108 = .ok (.bipush 6, 2) := by decide +kernel
theorem d_law_110 : decode code 110 = .ok (.ishr, 1) := by decide +kernel
theorem d_law_111 : decode code 111 = .ok (.iload_n 2, 1) := by decide +kernel
theorem d_law_112 : decode code 112 = .ok (.invokestatic 83, 3) := by decide +kernel
theorem d_law_115 : decode code 115 = .ok (.istore 11, 2) := by decide +kernel
theorem d_law_117 : decode code 117 = .ok (.iload 9, 2) := by decide +kernel
theorem d_law_119 : decode code 119 = .ok (.bipush 20, 2) := by decide +kernel
theorem d_law_121 : decode code 121 = .ok (.ishr, 1) := by decide +kernel
theorem d_law_122 : decode code 122 = .ok (.bipush 24, 2) := by decide +kernel
theorem d_law_124 : decode code 124 = .ok (.invokestatic 83, 3) := by decide +kernel
theorem d_law_127 : decode code 127 = .ok (.istore 12, 2) := by decide +kernel
theorem d_law_129 : decode code 129 = .ok (.iload 12, 2) := by decide +kernel
theorem d_law_131 : decode code 131 = .ok (.iconst 4, 1) := by decide +kernel
theorem d_law_132 : decode code 132 = .ok (.if_icmp .ge 79, 3) := by decide +kernel
theorem d_law_211 : decode code 211 = .ok (.iload 12, 2) := by decide +kernel
theorem d_law_213 : decode code 213 = .ok (.iconst 5, 1) := by decide +kernel
theorem d_law_214 : decode code 214 = .ok (.if_icmp .ge 58, 3) := by decide +kernel
theorem d_law_272 : decode code 272 = .ok (.iload 12, 2) := by decide +kernel
theorem d_law_274 : decode code 274 = .ok (.bipush 9, 2) := by decide +kernel
theorem d_law_276 : decode code 276 = .ok (.if_icmp .ge 64, 3) := by decide +kernel
theorem d_law_340 : decode code 340 = .ok (.iload 12, 2) := by decide +kernel
theorem d_law_342 : decode code 342 = .ok (.bipush 10, 2) := by decide +kernel
theorem d_law_344 : decode code 344 = .ok (.if_icmp .ge 56, 3) := by decide +kernel
theorem d_law_400 : decode code 400 = .ok (.iload 12, 2) := by decide +kernel
theorem d_law_402 : decode code 402 = .ok (.bipush 13, 2) := by decide +kernel
theorem d_law_404 : decode code 404 = .ok (.if_icmp .ge 65, 3) := by decide +kernel
theorem d_law_407 : decode code 407 = .ok (.aload_n 1, 1) := by decide +kernel
theorem d_law_408 : decode code 408 = .ok (.invokestatic 101, 3) := by decide +kernel
theorem d_law_411 : decode code 411 = .ok (.istore 13, 2) := by decide +kernel
theorem d_law_413 : decode code 413 = .ok (.iload 13, 2) := by decide +kernel
theorem d_law_415 : decode code 415 = .ok (.bipush (-3), 2) := by decide +kernel
theorem d_law_417 : decode code 417 = .ok (.if_icmp .eq 27, 3) := by decide +kernel
theorem d_law_420 : decode code 420 = .ok (.iload 13, 2) := by decide +kernel
theorem d_law_422 : decode code 422 = .ok (.iload_n 2, 1) := by decide +kernel
theorem d_law_423 : decode code 423 = .ok (.if_icmp .ne 25, 3) := by decide +kernel
theorem d_law_426 : decode code 426 = .ok (.aload_n 1, 1) := by decide +kernel
theorem d_law_427 : decode code 427 = .ok (.iload 13, 2) := by decide +kernel
theorem d_law_429 : decode code 429 = .ok (.invokevirtual 27, 3) := by decide +kernel
theorem d_law_432 : decode code 432 = .ok (.ifCond .ne 16, 3) := by decide +kernel
theorem d_law_435 : decode code 435 = .ok (.aload_n 1, 1) := by decide +kernel
theorem d_law_436 : decode code 436 = .ok (.invokestatic 101, 3) := by decide +kernel
theorem d_law_439 : decode code 439 = .ok (.bipush (-3), 2) := by decide +kernel
theorem d_law_441 : decode code 441 = .ok (.if_icmp .ne 7, 3) := by decide +kernel
theorem d_law_444 : decode code 444 = .ok (.iconst 1, 1) := by decide +kernel
theorem d_law_445 : decode code 445 = .ok (.goto 4, 3) := by decide +kernel
theorem d_law_449 : decode code 449 = .ok (.istore 6, 2) := by decide +kernel
theorem d_law_451 : decode code 451 = .ok (.iload_n 2, 1) := by decide +kernel
theorem d_law_452 : decode code 452 = .ok (.iload 13, 2) := by decide +kernel
theorem d_law_454 : decode code 454 = .ok (.bipush (-3), 2) := by decide +kernel
theorem d_law_456 : decode code 456 = .ok (.if_icmp .ne 7, 3) := by decide +kernel
theorem d_law_459 : decode code 459 = .ok (.iconst 0, 1) := by decide +kernel
theorem d_law_460 : decode code 460 = .ok (.goto 4, 3) := by decide +kernel
theorem d_law_463 : decode code 463 = .ok (.iconst 1, 1) := by decide +kernel
theorem d_law_464 : decode code 464 = .ok (.iadd, 1) := by decide +kernel
theorem d_law_465 : decode code 465 = .ok (.istore_n 2, 1) := by decide +kernel
theorem d_law_466 : decode code 466 = .ok (.goto 412, 3) := by decide +kernel
theorem d_law_469 : decode code 469 = .ok (.iload 12, 2) := by decide +kernel
theorem d_law_471 : decode code 471 = .ok (.bipush 16, 2) := by decide +kernel
theorem d_law_473 : decode code 473 = .ok (.if_icmp .ge 127, 3) := by decide +kernel
theorem d_law_600 : decode code 600 = .ok (.iload 12, 2) := by decide +kernel
theorem d_law_602 : decode code 602 = .ok (.bipush 17, 2) := by decide +kernel
theorem d_law_604 : decode code 604 = .ok (.if_icmp .ge 52, 3) := by decide +kernel
theorem d_law_607 : decode code 607 = .ok (.iload_n 2, 1) := by decide +kernel
theorem d_law_608 : decode code 608 = .ok (.ifCond .le 48, 3) := by decide +kernel
theorem d_law_611 : decode code 611 = .ok (.aload_n 1, 1) := by decide +kernel
theorem d_law_612 : decode code 612 = .ok (.iload 11, 2) := by decide +kernel
theorem d_law_614 : decode code 614 = .ok (.invokestatic 116, 3) := by decide +kernel
theorem d_law_617 : decode code 617 = .ok (.istore 13, 2) := by decide +kernel
theorem d_law_619 : decode code 619 = .ok (.iload 13, 2) := by decide +kernel
theorem d_law_621 : decode code 621 = .ok (.ifCond .lt 25, 3) := by decide +kernel
theorem d_law_624 : decode code 624 = .ok (.iload 13, 2) := by decide +kernel
theorem d_law_626 : decode code 626 = .ok (.sipush 1200, 3) := by decide +kernel
theorem d_law_629 : decode code 629 = .ok (.irem, 1) := by decide +kernel
theorem d_law_630 : decode code 630 = .ok (.bipush 20, 2) := by decide +kernel
theorem d_law_632 : decode code 632 = .ok (.if_icmp .ge 18, 3) := by decide +kernel
theorem d_law_635 : decode code 635 = .ok (.aload_n 1, 1) := by decide +kernel
theorem d_law_636 : decode code 636 = .ok (.iload 11, 2) := by decide +kernel
theorem d_law_638 : decode code 638 = .ok (.invokestatic 53, 3) := by decide +kernel
theorem d_law_641 : decode code 641 = .ok (.bipush (-4), 2) := by decide +kernel
theorem d_law_643 : decode code 643 = .ok (.if_icmp .ne 7, 3) := by decide +kernel
theorem d_law_646 : decode code 646 = .ok (.iconst 1, 1) := by decide +kernel
theorem d_law_647 : decode code 647 = .ok (.goto 4, 3) := by decide +kernel
theorem d_law_651 : decode code 651 = .ok (.istore 6, 2) := by decide +kernel
theorem d_law_653 : decode code 653 = .ok (.goto 225, 3) := by decide +kernel
theorem d_law_878 : decode code 878 = .ok (.iload 6, 2) := by decide +kernel
theorem d_law_880 : decode code 880 = .ok (.ifCond .eq 22, 3) := by decide +kernel
theorem d_law_883 : decode code 883 = .ok (.aload_n 1, 1) := by decide +kernel
theorem d_law_884 : decode code 884 = .ok (.invokestatic 69, 3) := by decide +kernel
theorem d_law_887 : decode code 887 = .ok (.ifCond .eq 15, 3) := by decide +kernel
theorem d_law_890 : decode code 890 = .ok (.aload_n 1, 1) := by decide +kernel
theorem d_law_891 : decode code 891 = .ok (.iload_n 2, 1) := by decide +kernel
theorem d_law_892 : decode code 892 = .ok (.invokestatic 73, 3) := by decide +kernel
theorem d_law_895 : decode code 895 = .ok (.ifCond .eq 7, 3) := by decide +kernel
theorem d_law_898 : decode code 898 = .ok (.iconst 1, 1) := by decide +kernel
theorem d_law_899 : decode code 899 = .ok (.goto 4, 3) := by decide +kernel
theorem d_law_903 : decode code 903 = .ok (.istore 6, 2) := by decide +kernel
theorem d_law_905 : decode code 905 = .ok (.iinc 8 1, 3) := by decide +kernel
theorem d_law_908 : decode code 908 = .ok (.goto (-843), 3) := by decide +kernel
theorem d_law_911 : decode code 911 = .ok (.iconst 0, 1) := by decide +kernel
theorem d_law_912 : decode code 912 = .ok (.istore 8, 2) := by decide +kernel
theorem d_law_914 : decode code 914 = .ok (.iconst 0, 1) := by decide +kernel
theorem d_law_915 : decode code 915 = .ok (.istore 9, 2) := by decide +kernel
theorem d_law_917 : decode code 917 = .ok (.iload 9, 2) := by decide +kernel
theorem d_law_919 : decode code 919 = .ok (.iload_n 3, 1) := by decide +kernel
theorem d_law_920 : decode code 920 = .ok (.if_icmp .ge 73, 3) := by decide +kernel
theorem d_law_993 : decode code 993 = .ok (.iload 6, 2) := by decide +kernel
theorem d_law_995 : decode code 995 = .ok (.ifCond .eq 16, 3) := by decide +kernel
theorem d_law_998 : decode code 998 = .ok (.aload_n 1, 1) := by decide +kernel
theorem d_law_999 : decode code 999 = .ok (.invokevirtual 127, 3) := by decide +kernel
theorem d_law_1002 : decode code 1002 = .ok (.iload 8, 2) := by decide +kernel
theorem d_law_1004 : decode code 1004 = .ok (.if_icmp .ne 7, 3) := by decide +kernel
theorem d_law_1007 : decode code 1007 = .ok (.iconst 1, 1) := by decide +kernel
theorem d_law_1008 : decode code 1008 = .ok (.goto 4, 3) := by decide +kernel
theorem d_law_1012 : decode code 1012 = .ok (.ireturn, 1) := by decide +kernel
abbrev lwA (s : State) : Nat → Prop := fun q => s.heap.size ≤ q
abbrev rf_room : Room := { frames := 16, cells := 1200, slots := 9000, locals := 600 }
def rf_Z (below : List Frame) (s : State) (k : Nat) : State → Prop := fun t => ∃ o, t.status = .running ∧ Ended t below o ∧ s.heap.size + k ≤ t.heap.size
def rfC (p : Program) (l : Launch) (s : State) (m : MethodId) (meth : Method) (c : Code) (b : Nat) (xs : Nat → Int32) (D : va_G) (cs : rr_C3) : Prop := CallFix p m c code 18 s #[Value.ref b] rr_all "RopeVotesLaw" ∧ meth.sig.returnType = ret ∧ meth.locks = false ∧ l.stackTraces = false ∧ va_X b 61 xs s s.heap ∧ b < s.heap.size ∧ rr_K D cs s ∧ rr_Y s ∧ rr_Z (lwA s) s s.heap
def rfS (s : State) (b : Nat) (D : va_G) (cs : rr_C3) (ad : Nat → Nat) (i c9 d9 N9 : Nat) (μ ρ : NS) (H : Heap) (locs : List Loc) (ls : Array Slot) : Prop := IM μ ∧ IC μ ρ ∧ SC μ c9 d9 ∧ va_P D classes (cwL cs ad μ ρ) H ∧ va_D (lwA s) (cwL cs ad μ ρ) ∧ va_S (lwA s) s.heap H locs ∧ lv_has ls 18 [(8, .int (nI i)), (0, .ref b), (1, .ref (ad 0)), (2, .int (nI c9)), (3, .int (nI 0)), (4, .int (nI 0)), (5, .int (nI 0)), (6, .int (nI 1)), (7, .int (nI 60))] ∧ s.heap.size + N9 ≤ H.size
/-- what the script says at each turn -/
def rfX (xs : Nat → Int32) : Prop := lowI (xs 0) (nI 55) = nI 54 ∧ (∀ j, j < 16 → lowI (xs (1 + 2 * j) >>> (nI 20 &&& 31)) (nI 24) = nI 10 ∧ lowI (xs (1 + (2 * j + 1)) >>> (nI 20 &&& 31)) (nI 24) = nI 16 ∧ lowI (xs (1 + (2 * j + 1)) >>> (nI 6 &&& 31)) (nI (j + 1)) = nI j) ∧ ∀ j, j < 28 → lowI (xs (1 + (32 + j)) >>> (nI 20 &&& 31)) (nI 24) = nI 10
/-- the law's end, the heap at least so large -/
theorem rf_ret {p : Program} {l : Launch} {e : Env} {s : State} {m : MethodId} {below : List Frame} {meth : Method} {c : Code} {b : Nat} (hx : p.tables.exec = Jvm.exec) (hb : c.code = code) (hr : meth.sig.returnType = ret) (hlocks : meth.locks = false) {pc : Nat} {H : Heap} {ls : Array Slot} {locs : List Loc} {cells slots k : Nat} (hz : s.heap.size + k ≤ H.size) (hdg : decode code pc = .ok (.ireturn, 1)) : W p l e rf_room s m #[Value.ref b] below meth c H locs cells slots (rf_Z below s k) (F0 m pc ls [.int 1]) := by
  intro T hT X
  obtain ⟨fs, hret, hrun, hended, hW, hframe⟩ := X.leave (v := some (.int 1)) (hlocks := hlocks) (fun h => by rw [hr] at h; cases h)
  have hmeth' : T.vm.method? m = some meth := X.method'
  refine ⟨T.setFrames fs, ?_, .returned (some (.int 1)), hrun, hended, (by show s.heap.size + k ≤ T.heap.size; rw [hT]; exact hz)⟩
  jvm_step X.here [X.here.top, hx, hb, hdg, hmeth', hr, ret, narrow_b1]
  (try refine ⟨rfl, ?_⟩); (try refine ⟨rfl, ?_⟩)
  first | (intro acts; rw [hret _ acts rfl rfl rfl]) | rw [hret _ _ rfl rfl rfl]
  exact Steps.refl _
