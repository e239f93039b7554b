theorem dX11_define_0 : decode cX11_define 0 = .ok (.iload_n 1, 1) := by decide +kernel
theorem dX11_define_1 : decode cX11_define 1 = .ok (.i2l, 1) := by decide +kernel
theorem dX11_define_2 : decode cX11_define 2 = .ok (.lconst 0, 1) := by decide +kernel
theorem dX11_define_3 : decode cX11_define 3 = .ok (.ldc2_w 89, 3) := by decide +kernel
theorem dX11_define_6 : decode cX11_define 6 = .ok (.invokestatic 91, 3) := by decide +kernel
theorem dX11_define_9 : decode cX11_define 9 = .ok (.ifCond .ne 7, 3) := by decide +kernel
theorem dX11_define_12 : decode cX11_define 12 = .ok (.sipush (-1001), 3) := by decide +kernel
theorem dX11_define_15 : decode cX11_define 15 = .ok (.ireturn, 1) := by decide +kernel
theorem dX11_define_16 : decode cX11_define 16 = .ok (.aload_n 0, 1) := by decide +kernel
theorem dX11_define_17 : decode cX11_define 17 = .ok (.invokevirtual 201, 3) := by decide +kernel
theorem dX11_define_20 : decode cX11_define 20 = .ok (.sipush (-1009), 3) := by decide +kernel
theorem dX11_define_23 : decode cX11_define 23 = .ok (.if_icmp .eq 7, 3) := by decide +kernel
theorem dX11_define_26 : decode cX11_define 26 = .ok (.sipush (-1002), 3) := by decide +kernel
theorem dX11_define_29 : decode cX11_define 29 = .ok (.ireturn, 1) := by decide +kernel
theorem dX11_define_30 : decode cX11_define 30 = .ok (.iconst 0, 1) := by decide +kernel
theorem dX11_define_31 : decode cX11_define 31 = .ok (.istore_n 2, 1) := by decide +kernel
theorem dX11_define_32 : decode cX11_define 32 = .ok (.iload_n 2, 1) := by decide +kernel
theorem dX11_define_33 : decode cX11_define 33 = .ok (.iconst 4, 1) := by decide +kernel
theorem dX11_define_34 : decode cX11_define 34 = .ok (.if_icmp .ge 30, 3) := by decide +kernel
theorem dX11_define_37 : decode cX11_define 37 = .ok (.aload_n 0, 1) := by decide +kernel
theorem dX11_define_38 : decode cX11_define 38 = .ok (.iload_n 2, 1) := by decide +kernel
theorem dX11_define_39 : decode cX11_define 39 = .ok (.invokevirtual 204, 3) := by decide +kernel
theorem dX11_define_42 : decode cX11_define 42 = .ok (.ifCond .eq 16, 3) := by decide +kernel
theorem dX11_define_45 : decode cX11_define 45 = .ok (.aload_n 0, 1) := by decide +kernel
theorem dX11_define_46 : decode cX11_define 46 = .ok (.iload_n 2, 1) := by decide +kernel
theorem dX11_define_47 : decode cX11_define 47 = .ok (.invokevirtual 207, 3) := by decide +kernel
theorem dX11_define_50 : decode cX11_define 50 = .ok (.iload_n 1, 1) := by decide +kernel
theorem dX11_define_51 : decode cX11_define 51 = .ok (.if_icmp .ne 7, 3) := by decide +kernel
theorem dX11_define_54 : decode cX11_define 54 = .ok (.sipush (-1002), 3) := by decide +kernel
theorem dX11_define_57 : decode cX11_define 57 = .ok (.ireturn, 1) := by decide +kernel
theorem dX11_define_58 : decode cX11_define 58 = .ok (.iinc 2 1, 3) := by decide +kernel
theorem dX11_define_61 : decode cX11_define 61 = .ok (.goto (-29), 3) := by decide +kernel
theorem dX11_define_64 : decode cX11_define 64 = .ok (.iconst 0, 1) := by decide +kernel
theorem dX11_define_65 : decode cX11_define 65 = .ok (.istore_n 2, 1) := by decide +kernel
theorem dX11_define_66 : decode cX11_define 66 = .ok (.iload_n 2, 1) := by decide +kernel
theorem dX11_define_67 : decode cX11_define 67 = .ok (.sipush 336, 3) := by decide +kernel
theorem dX11_define_70 : decode cX11_define 70 = .ok (.if_icmp .ge 31, 3) := by decide +kernel
theorem dX11_define_73 : decode cX11_define 73 = .ok (.aload_n 0, 1) := by decide +kernel
theorem dX11_define_74 : decode cX11_define 74 = .ok (.getfield 31, 3) := by decide +kernel
theorem dX11_define_77 : decode cX11_define 77 = .ok (.sipush 336, 3) := by decide +kernel
theorem dX11_define_80 : decode cX11_define 80 = .ok (.iload_n 1, 1) := by decide +kernel
theorem dX11_define_81 : decode cX11_define 81 = .ok (.imul, 1) := by decide +kernel
theorem dX11_define_82 : decode cX11_define 82 = .ok (.iload_n 2, 1) := by decide +kernel
theorem dX11_define_83 : decode cX11_define 83 = .ok (.iadd, 1) := by decide +kernel
theorem dX11_define_84 : decode cX11_define 84 = .ok (.aload_n 0, 1) := by decide +kernel
theorem dX11_define_85 : decode cX11_define 85 = .ok (.getfield 31, 3) := by decide +kernel
theorem dX11_define_88 : decode cX11_define 88 = .ok (.sipush 1344, 3) := by decide +kernel
theorem dX11_define_91 : decode cX11_define 91 = .ok (.iload_n 2, 1) := by decide +kernel
theorem dX11_define_92 : decode cX11_define 92 = .ok (.iadd, 1) := by decide +kernel
theorem dX11_define_93 : decode cX11_define 93 = .ok (.iaload, 1) := by decide +kernel
theorem dX11_define_94 : decode cX11_define 94 = .ok (.iastore, 1) := by decide +kernel
theorem dX11_define_95 : decode cX11_define 95 = .ok (.iinc 2 1, 3) := by decide +kernel
theorem dX11_define_98 : decode cX11_define 98 = .ok (.goto (-32), 3) := by decide +kernel
theorem dX11_define_101 : decode cX11_define 101 = .ok (.aload_n 0, 1) := by decide +kernel
theorem dX11_define_102 : decode cX11_define 102 = .ok (.getfield 34, 3) := by decide +kernel
theorem dX11_define_105 : decode cX11_define 105 = .ok (.iload_n 1, 1) := by decide +kernel
theorem dX11_define_106 : decode cX11_define 106 = .ok (.aload_n 0, 1) := by decide +kernel
theorem dX11_define_107 : decode cX11_define 107 = .ok (.getfield 34, 3) := by decide +kernel
theorem dX11_define_110 : decode cX11_define 110 = .ok (.iconst 4, 1) := by decide +kernel
theorem dX11_define_111 : decode cX11_define 111 = .ok (.iaload, 1) := by decide +kernel
theorem dX11_define_112 : decode cX11_define 112 = .ok (.iastore, 1) := by decide +kernel
theorem dX11_define_113 : decode cX11_define 113 = .ok (.aload_n 0, 1) := by decide +kernel
theorem dX11_define_114 : decode cX11_define 114 = .ok (.iconst 0, 1) := by decide +kernel
theorem dX11_define_115 : decode cX11_define 115 = .ok (.putfield 97, 3) := by decide +kernel
theorem dX11_define_118 : decode cX11_define 118 = .ok (.aload_n 0, 1) := by decide +kernel
theorem dX11_define_119 : decode cX11_define 119 = .ok (.getfield 34, 3) := by decide +kernel
theorem dX11_define_122 : decode cX11_define 122 = .ok (.iload_n 1, 1) := by decide +kernel
theorem dX11_define_123 : decode cX11_define 123 = .ok (.iaload, 1) := by decide +kernel
theorem dX11_define_124 : decode cX11_define 124 = .ok (.ireturn, 1) := by decide +kernel
theorem vc_X11_define_0 {G : zG} {d : Nat} {Q : Option zV → zHp → Prop} (p1 : Int) (h : zHp) (hS : zSh h) (hd : 11 ≤ d) (I_32 : Int → Int → zHp → Prop) (hI_32 : ∀ (y1 : Int) (y2 : Int) (h' : zHp), I_32 y1 y2 h' → wpN G d M_X11_define 32 [(0, vR 343), (1, vI y1), (2, vI y2)] [] h' Q) 
    (hv : (wpN G (d - 1) M_X11_in 0 (zar 0 [vL p1, vL 0, vL 3]) [] h (qI (fun z1 h2 => zSh h2 ∧ ((z1 ≠ 0 → (wpN G (d - 1) M_X11_templateFault 0 (zar 0 [vR 343]) [] h2 (qI (fun z6 h7 => zSh h7 ∧ ((z6 = (-1009) → (zSh h7 → I_32 p1 0 h7)) ∧ (z6 ≠ (-1009) → Q (some (vI (-1002))) h7)))))) ∧ (z1 = 0 → Q (some (vI (-1001))) h2)))))) : wpN G d M_X11_define 0 [(0, vR 343), (1, vI p1)] [] h Q := by
  refine wq_iload_n 1 rfl rfl dX11_define_0 ?_
  refine wq_i2l dX11_define_1 ?_
  refine wq_lconst (z := 0) (zlitL rfl) rfl dX11_define_2 ?_
  refine wq_ldc2_w (z := 3) (zlitL rfl) kc_X11_89 dX11_define_3 ?_
  refine wN_S (As := [vL p1, vL 0, vL 3]) md_X11_in ms_X11_in lk_X11_91 rfl rfl (Nat.le_of_ble_eq_true rfl) (Nat.le_of_ble_eq_true rfl) (d' := d - 1) (by omega) dX11_define_6 hv (fun v9 h2 q3 => ?_)
  obtain ⟨z1, rfl, hS4, q3⟩ := q3
  refine wq_st (st' := [vI z1]) rfl ?_
  refine wq_if_ne 16 rfl dX11_define_9 (fun c5 => ?_) (fun c5 => ?_)
  · refine wq_aload_n 0 rfl rfl dX11_define_16 ?_
    refine wN_V (As := []) vm_X11_templateFault lk_X11_201 tT_343 rfl rfl (Nat.le_of_ble_eq_true rfl) (Nat.le_of_ble_eq_true rfl) (d' := d - 1) (by omega) dX11_define_17 (q3.1 c5) (fun v9 h7 q8 => ?_)
    obtain ⟨z6, rfl, hS9, q8⟩ := q8
    refine wq_st (st' := [vI z6]) rfl ?_
    refine wq_sipush (z := -1009) (zlit rfl) rfl dX11_define_20 ?_
    refine wq_icmp_eq 30 rfl dX11_define_23 (fun c10 => ?_) (fun c10 => ?_)
    · refine wq_iconst (z := 0) (zlit rfl) dX11_define_30 ?_
      refine wq_istore_n (ls' := [(0, vR 343), (1, vI p1), (2, vI 0)]) rfl (by decide) rfl dX11_define_31 ?_
      exact wq_pick [0, 1, 2] rfl (hI_32 p1 0 h7 ((q8.1 c10) hS9))
    · refine wq_sipush (z := -1002) (zlit rfl) rfl dX11_define_26 ?_
      exact wp_iret rfl dX11_define_29 (q8.2 c10)
  · refine wq_sipush (z := -1001) (zlit rfl) rfl dX11_define_12 ?_
    exact wp_iret rfl dX11_define_15 (q3.2 c5)
theorem vc_X11_define_32 {G : zG} {d : Nat} {Q : Option zV → zHp → Prop} (y1 : Int) (y2 : Int) (h : zHp) (hS : zSh h) (hd : 11 ≤ d) (I_32 : Int → Int → zHp → Prop) (hI_32 : ∀ (y1 : Int) (y2 : Int) (h' : zHp), I_32 y1 y2 h' → wpN G d M_X11_define 32 [(0, vR 343), (1, vI y1), (2, vI y2)] [] h' Q) (I_66 : Int → Int → zHp → Prop) (hI_66 : ∀ (y1 : Int) (y2 : Int) (h' : zHp), I_66 y1 y2 h' → wpN G d M_X11_define 66 [(0, vR 343), (1, vI y1), (2, vI y2)] [] h' Q) 
    (hv : ((4 ≤ y2 → (zSh h → I_66 y1 0 h)) ∧ (y2 < 4 → (wpN G (d - 1) M_X11_isPresent 0 (zar 0 [vR 343, vI y2]) [] h (qI (fun z2 h3 => zSh h3 ∧ ((z2 = 0 → ((-2147483648 ≤ y2 + 1 ∧ y2 + 1 ≤ 2147483647) ∧ ∀ x7 : Int, x7 = y2 + 1 → (zSh h3 → I_32 y1 x7 h3))) ∧ (z2 ≠ 0 → (wpN G (d - 1) M_X11_templateOf 0 (zar 0 [vR 343, vI y2]) [] h3 (qI (fun z9 h10 => zSh h10 ∧ ((z9 ≠ y1 → ((-2147483648 ≤ y2 + 1 ∧ y2 + 1 ≤ 2147483647) ∧ ∀ x14 : Int, x14 = y2 + 1 → (zSh h10 → I_32 y1 x14 h10))) ∧ (z9 = y1 → Q (some (vI (-1002))) h10))))))))))))) : wpN G d M_X11_define 32 [(0, vR 343), (1, vI y1), (2, vI y2)] [] h Q := by
  refine wq_iload_n 2 rfl rfl dX11_define_32 ?_
  refine wq_iconst (z := 4) (zlit rfl) dX11_define_33 ?_
  refine wq_icmp_ge 64 rfl dX11_define_34 (fun c1 => ?_) (fun c1 => ?_)
  · refine wq_iconst (z := 0) (zlit rfl) dX11_define_64 ?_
    refine wq_istore_n (ls' := [(0, vR 343), (1, vI y1), (2, vI 0)]) rfl (by decide) rfl dX11_define_65 ?_
    exact wq_pick [0, 1, 2] rfl (hI_66 y1 0 h ((hv.1 c1) hS))
  · refine wq_aload_n 0 rfl rfl dX11_define_37 ?_
    refine wq_iload_n 2 rfl rfl dX11_define_38 ?_
    refine wN_V (As := [vI y2]) vm_X11_isPresent lk_X11_204 tT_343 rfl rfl (Nat.le_of_ble_eq_true rfl) (Nat.le_of_ble_eq_true rfl) (d' := d - 1) (by omega) dX11_define_39 (hv.2 c1) (fun v9 h3 q4 => ?_)
    obtain ⟨z2, rfl, hS5, q4⟩ := q4
    refine wq_st (st' := [vI z2]) rfl ?_
    refine wq_if_eq 58 rfl dX11_define_42 (fun c6 => ?_) (fun c6 => ?_)
    · refine z_nm (y2 + 1) (fun x7 e8 => ?_)
      refine wq_iinc (y := x7) (ls' := [(0, vR 343), (1, vI y1), (2, vI x7)]) 2 rfl e8.symm (by rw [e8]; exact (q4.1 c6).1) (by decide) rfl dX11_define_58 ?_
      refine wq_goto 32 rfl dX11_define_61 ?_
      exact wq_pick [0, 1, 2] rfl (hI_32 y1 x7 h3 (((q4.1 c6).2 x7 e8) hS5))
    · refine wq_aload_n 0 rfl rfl dX11_define_45 ?_
      refine wq_iload_n 2 rfl rfl dX11_define_46 ?_
      refine wN_V (As := [vI y2]) vm_X11_templateOf lk_X11_207 tT_343 rfl rfl (Nat.le_of_ble_eq_true rfl) (Nat.le_of_ble_eq_true rfl) (d' := d - 1) (by omega) dX11_define_47 (q4.2 c6) (fun v9 h10 q11 => ?_)
      obtain ⟨z9, rfl, hS12, q11⟩ := q11
      refine wq_st (st' := [vI z9]) rfl ?_
      refine wq_iload_n 1 rfl rfl dX11_define_50 ?_
      refine wq_icmp_ne 58 rfl dX11_define_51 (fun c13 => ?_) (fun c13 => ?_)
      · refine z_nm (y2 + 1) (fun x14 e15 => ?_)
        refine wq_iinc (y := x14) (ls' := [(0, vR 343), (1, vI y1), (2, vI x14)]) 2 rfl e15.symm (by rw [e15]; exact (q11.1 c13).1) (by decide) rfl dX11_define_58 ?_
        refine wq_goto 32 rfl dX11_define_61 ?_
        exact wq_pick [0, 1, 2] rfl (hI_32 y1 x14 h10 (((q11.1 c13).2 x14 e15) hS12))
      · refine wq_sipush (z := -1002) (zlit rfl) rfl dX11_define_54 ?_
        exact wp_iret rfl dX11_define_57 (q11.2 c13)
theorem vc_X11_define_66 {G : zG} {d : Nat} {Q : Option zV → zHp → Prop} (y1 : Int) (y2 : Int) (h : zHp) (hS : zSh h) (hd : 11 ≤ d) (I_66 : Int → Int → zHp → Prop) (hI_66 : ∀ (y1 : Int) (y2 : Int) (h' : zHp), I_66 y1 y2 h' → wpN G d M_X11_define 66 [(0, vR 343), (1, vI y1), (2, vI y2)] [] h' Q) 
    (hv : ((336 ≤ y2 → (((0 : Int) ≤ y1 ∧ y1 < ((5 : Nat) : Int)) ∧ (∀ h2 : zHp, h2 = sI h 352 y1.toNat (gI h 352 4) → (∀ h4 : zHp, h4 = sI h2 343 12 0 → (((0 : Int) ≤ y1 ∧ y1 < ((5 : Nat) : Int)) ∧ Q (some (vI (gI h4 352 y1.toNat))) h4))))) ∧ (y2 < 336 → ((-2147483648 ≤ 336 * y1 ∧ 336 * y1 ≤ 2147483647) ∧ ((-2147483648 ≤ (336 * y1) + y2 ∧ (336 * y1) + y2 ≤ 2147483647) ∧ ((-2147483648 ≤ 1344 + y2 ∧ 1344 + y2 ≤ 2147483647) ∧ (((0 : Int) ≤ (1344 + y2) ∧ (1344 + y2) < ((1680 : Nat) : Int)) ∧ (((0 : Int) ≤ ((336 * y1) + y2) ∧ ((336 * y1) + y2) < ((1680 : Nat) : Int)) ∧ (∀ h6 : zHp, h6 = sI h 351 ((336 * y1) + y2).toNat (gI h 351 (1344 + y2).toNat) → ((-2147483648 ≤ y2 + 1 ∧ y2 + 1 ≤ 2147483647) ∧ ∀ x8 : Int, x8 = y2 + 1 → (zSh h6 → I_66 y1 x8 h6))))))))))) : wpN G d M_X11_define 66 [(0, vR 343), (1, vI y1), (2, vI y2)] [] h Q := by
  refine wq_iload_n 2 rfl rfl dX11_define_66 ?_
  refine wq_sipush (z := 336) (zlit rfl) rfl dX11_define_67 ?_
  refine wq_icmp_ge 101 rfl dX11_define_70 (fun c1 => ?_) (fun c1 => ?_)
  · refine wq_aload_n 0 rfl rfl dX11_define_101 ?_
    refine wq_getR fk_X11_34 tT_343 (fun _ _ _ => rfl) (sh_11_14 hS) (by decide) dX11_define_102 ?_
    refine wq_iload_n 1 rfl rfl dX11_define_105 ?_
    refine wq_aload_n 0 rfl rfl dX11_define_106 ?_
    refine wq_getR fk_X11_34 tT_343 (fun _ _ _ => rfl) (sh_11_14 hS) (by decide) dX11_define_107 ?_
    refine wq_iconst (z := 4) (zlit rfl) dX11_define_110 ?_
    refine wq_iald tT_352 (by decide) (by decide) dX11_define_111 ?_
    refine wq_iast tT_352 (hv.1 c1).1.1 (hv.1 c1).1.2 dX11_define_112 ?_
    refine wq_toph (fun h2 e3 => ?_)
    have sh2 : zSh h2 := zSh_of e3 hS
    refine wq_aload_n 0 rfl rfl dX11_define_113 ?_
    refine wq_iconst (z := 0) (zlit rfl) dX11_define_114 ?_
    refine wq_putI fk_X11_97 tT_343 rfl rfl dX11_define_115 ?_
    refine wq_toph (fun h4 e5 => ?_)
    have sh4 : zSh h4 := zSh_of e5 sh2
    refine wq_aload_n 0 rfl rfl dX11_define_118 ?_
    refine wq_getR fk_X11_34 tT_343 (fun _ _ _ => rfl) (sh_11_14 sh4) (by decide) dX11_define_119 ?_
    refine wq_iload_n 1 rfl rfl dX11_define_122 ?_
    refine wq_iald tT_352 (((hv.1 c1).2 h2 e3) h4 e5).1.1 (((hv.1 c1).2 h2 e3) h4 e5).1.2 dX11_define_123 ?_
    exact wp_iret rfl dX11_define_124 (((hv.1 c1).2 h2 e3) h4 e5).2
  · refine wq_aload_n 0 rfl rfl dX11_define_73 ?_
    refine wq_getR fk_X11_31 tT_343 (fun _ _ _ => rfl) (sh_11_13 hS) (by decide) dX11_define_74 ?_
    refine wq_sipush (z := 336) (zlit rfl) rfl dX11_define_77 ?_
    refine wq_iload_n 1 rfl rfl dX11_define_80 ?_
    refine wq_imul (hv.2 c1).1 dX11_define_81 ?_
    refine wq_iload_n 2 rfl rfl dX11_define_82 ?_
    refine wq_iadd (hv.2 c1).2.1 dX11_define_83 ?_
    refine wq_aload_n 0 rfl rfl dX11_define_84 ?_
    refine wq_getR fk_X11_31 tT_343 (fun _ _ _ => rfl) (sh_11_13 hS) (by decide) dX11_define_85 ?_
    refine wq_sipush (z := 1344) (zlit rfl) rfl dX11_define_88 ?_
    refine wq_iload_n 2 rfl rfl dX11_define_91 ?_
    refine wq_iadd (hv.2 c1).2.2.1 dX11_define_92 ?_
    refine wq_iald tT_351 (hv.2 c1).2.2.2.1.1 (hv.2 c1).2.2.2.1.2 dX11_define_93 ?_
    refine wq_iast tT_351 (hv.2 c1).2.2.2.2.1.1 (hv.2 c1).2.2.2.2.1.2 dX11_define_94 ?_
    refine wq_toph (fun h6 e7 => ?_)
    have sh6 : zSh h6 := zSh_of e7 hS
    refine z_nm (y2 + 1) (fun x8 e9 => ?_)
    refine wq_iinc (y := x8) (ls' := [(0, vR 343), (1, vI y1), (2, vI x8)]) 2 rfl e9.symm (by rw [e9]; exact ((hv.2 c1).2.2.2.2.2 h6 e7).1) (by decide) rfl dX11_define_95 ?_
    refine wq_goto 66 rfl dX11_define_98 ?_
    exact wq_pick [0, 1, 2] rfl (hI_66 y1 x8 h6 ((((hv.2 c1).2.2.2.2.2 h6 e7).2 x8 e9) sh6))
theorem dX11_items_0 : decode cX11_items 0 = .ok (.iload_n 1, 1) := by decide +kernel
theorem dX11_items_1 : decode cX11_items 1 = .ok (.i2l, 1) := by decide +kernel
theorem dX11_items_2 : decode cX11_items 2 = .ok (.lconst 0, 1) := by decide +kernel
theorem dX11_items_3 : decode cX11_items 3 = .ok (.ldc2_w 89, 3) := by decide +kernel
theorem dX11_items_6 : decode cX11_items 6 = .ok (.invokestatic 91, 3) := by decide +kernel
theorem dX11_items_9 : decode cX11_items 9 = .ok (.ifCond .eq 12, 3) := by decide +kernel
theorem dX11_items_12 : decode cX11_items 12 = .ok (.aload_n 0, 1) := by decide +kernel
theorem dX11_items_13 : decode cX11_items 13 = .ok (.getfield 34, 3) := by decide +kernel
theorem dX11_items_16 : decode cX11_items 16 = .ok (.iload_n 1, 1) := by decide +kernel
theorem dX11_items_17 : decode cX11_items 17 = .ok (.iaload, 1) := by decide +kernel
theorem dX11_items_18 : decode cX11_items 18 = .ok (.goto 6, 3) := by decide +kernel
theorem dX11_items_21 : decode cX11_items 21 = .ok (.sipush (-1001), 3) := by decide +kernel
theorem dX11_items_24 : decode cX11_items 24 = .ok (.ireturn, 1) := by decide +kernel
theorem vc_X11_items_0 {G : zG} {d : Nat} {Q : Option zV → zHp → Prop} (p1 : Int) (h : zHp) (hS : zSh h) (hd : 1 ≤ d)  
    (hv : (wpN G (d - 1) M_X11_in 0 (zar 0 [vL p1, vL 0, vL 3]) [] h (qI (fun z1 h2 => zSh h2 ∧ ((z1 = 0 → Q (some (vI (-1001))) h2) ∧ (z1 ≠ 0 → (((0 : Int) ≤ p1 ∧ p1 < ((5 : Nat) : Int)) ∧ Q (some (vI (gI h2 352 p1.toNat))) h2))))))) : wpN G d M_X11_items 0 [(0, vR 343), (1, vI p1)] [] h Q := by
  refine wq_iload_n 1 rfl rfl dX11_items_0 ?_
  refine wq_i2l dX11_items_1 ?_
  refine wq_lconst (z := 0) (zlitL rfl) rfl dX11_items_2 ?_
  refine wq_ldc2_w (z := 3) (zlitL rfl) kc_X11_89 dX11_items_3 ?_
  refine wN_S (As := [vL p1, vL 0, vL 3]) md_X11_in ms_X11_in lk_X11_91 rfl rfl (Nat.le_of_ble_eq_true rfl) (Nat.le_of_ble_eq_true rfl) (d' := d - 1) (by omega) dX11_items_6 hv (fun v9 h2 q3 => ?_)
  obtain ⟨z1, rfl, hS4, q3⟩ := q3
  refine wq_st (st' := [vI z1]) rfl ?_
  refine wq_if_eq 21 rfl dX11_items_9 (fun c5 => ?_) (fun c5 => ?_)
  · refine wq_sipush (z := -1001) (zlit rfl) rfl dX11_items_21 ?_
    exact wp_iret rfl dX11_items_24 (q3.1 c5)
  · refine wq_aload_n 0 rfl rfl dX11_items_12 ?_
    refine wq_getR fk_X11_34 tT_343 (fun _ _ _ => rfl) (sh_11_14 hS4) (by decide) dX11_items_13 ?_
    refine wq_iload_n 1 rfl rfl dX11_items_16 ?_
    refine wq_iald tT_352 (q3.2 c5).1.1 (q3.2 c5).1.2 dX11_items_17 ?_
    refine wq_goto 24 rfl dX11_items_18 ?_
    exact wp_iret rfl dX11_items_24 (q3.2 c5).2
theorem dX11_halfOf_0 : decode cX11_halfOf 0 = .ok (.iload_n 0, 1) := by decide +kernel
theorem dX11_halfOf_1 : decode cX11_halfOf 1 = .ok (.bipush 63, 2) := by decide +kernel
theorem dX11_halfOf_3 : decode cX11_halfOf 3 = .ok (.if_icmp .ne 8, 3) := by decide +kernel
theorem dX11_halfOf_6 : decode cX11_halfOf 6 = .ok (.bipush 16, 2) := by decide +kernel
theorem dX11_halfOf_8 : decode cX11_halfOf 8 = .ok (.goto 49, 3) := by decide +kernel
theorem dX11_halfOf_11 : decode cX11_halfOf 11 = .ok (.iload_n 0, 1) := by decide +kernel
theorem dX11_halfOf_12 : decode cX11_halfOf 12 = .ok (.i2l, 1) := by decide +kernel
theorem dX11_halfOf_13 : decode cX11_halfOf 13 = .ok (.ldc2_w 125, 3) := by decide +kernel
theorem dX11_halfOf_16 : decode cX11_halfOf 16 = .ok (.ldc2_w 127, 3) := by decide +kernel
theorem dX11_halfOf_19 : decode cX11_halfOf 19 = .ok (.invokestatic 91, 3) := by decide +kernel
theorem dX11_halfOf_22 : decode cX11_halfOf 22 = .ok (.ifCond .eq 10, 3) := by decide +kernel
theorem dX11_halfOf_25 : decode cX11_halfOf 25 = .ok (.iload_n 0, 1) := by decide +kernel
theorem dX11_halfOf_26 : decode cX11_halfOf 26 = .ok (.bipush 48, 2) := by decide +kernel
theorem dX11_halfOf_28 : decode cX11_halfOf 28 = .ok (.isub, 1) := by decide +kernel
theorem dX11_halfOf_29 : decode cX11_halfOf 29 = .ok (.goto 28, 3) := by decide +kernel
theorem dX11_halfOf_32 : decode cX11_halfOf 32 = .ok (.iload_n 0, 1) := by decide +kernel
theorem dX11_halfOf_33 : decode cX11_halfOf 33 = .ok (.i2l, 1) := by decide +kernel
theorem dX11_halfOf_34 : decode cX11_halfOf 34 = .ok (.ldc2_w 135, 3) := by decide +kernel
theorem dX11_halfOf_37 : decode cX11_halfOf 37 = .ok (.ldc2_w 210, 3) := by decide +kernel
theorem dX11_halfOf_40 : decode cX11_halfOf 40 = .ok (.invokestatic 91, 3) := by decide +kernel
theorem dX11_halfOf_43 : decode cX11_halfOf 43 = .ok (.ifCond .eq 13, 3) := by decide +kernel
theorem dX11_halfOf_46 : decode cX11_halfOf 46 = .ok (.iload_n 0, 1) := by decide +kernel
theorem dX11_halfOf_47 : decode cX11_halfOf 47 = .ok (.bipush 97, 2) := by decide +kernel
theorem dX11_halfOf_49 : decode cX11_halfOf 49 = .ok (.isub, 1) := by decide +kernel
theorem dX11_halfOf_50 : decode cX11_halfOf 50 = .ok (.bipush 10, 2) := by decide +kernel
theorem dX11_halfOf_52 : decode cX11_halfOf 52 = .ok (.iadd, 1) := by decide +kernel
theorem dX11_halfOf_53 : decode cX11_halfOf 53 = .ok (.goto 4, 3) := by decide +kernel
theorem dX11_halfOf_56 : decode cX11_halfOf 56 = .ok (.iconst (-1), 1) := by decide +kernel
theorem dX11_halfOf_57 : decode cX11_halfOf 57 = .ok (.ireturn, 1) := by decide +kernel
theorem vc_X11_halfOf_0 {G : zG} {d : Nat} {Q : Option zV → zHp → Prop} (p1 : Int) (h : zHp) (hS : zSh h) (hd : 1 ≤ d)  
    (hv : ((p1 ≠ 63 → (wpN G (d - 1) M_X11_in 0 (zar 0 [vL p1, vL 48, vL 57]) [] h (qI (fun z2 h3 => zSh h3 ∧ ((z2 = 0 → (wpN G (d - 1) M_X11_in 0 (zar 0 [vL p1, vL 97, vL 102]) [] h3 (qI (fun z7 h8 => zSh h8 ∧ ((z7 = 0 → Q (some (vI (-1))) h8) ∧ (z7 ≠ 0 → ((-2147483648 ≤ p1 - 97 ∧ p1 - 97 ≤ 2147483647) ∧ ((-2147483648 ≤ (p1 - 97) + 10 ∧ (p1 - 97) + 10 ≤ 2147483647) ∧ Q (some (vI ((p1 - 97) + 10))) h8)))))))) ∧ (z2 ≠ 0 → ((-2147483648 ≤ p1 - 48 ∧ p1 - 48 ≤ 2147483647) ∧ Q (some (vI (p1 - 48))) h3))))))) ∧ (p1 = 63 → Q (some (vI 16)) h))) : wpN G d M_X11_halfOf 0 [(0, vI p1)] [] h Q := by
  refine wq_iload_n 0 rfl rfl dX11_halfOf_0 ?_
  refine wq_bipush (z := 63) (zlit rfl) rfl dX11_halfOf_1 ?_
  refine wq_icmp_ne 11 rfl dX11_halfOf_3 (fun c1 => ?_) (fun c1 => ?_)
  · refine wq_iload_n 0 rfl rfl dX11_halfOf_11 ?_
    refine wq_i2l dX11_halfOf_12 ?_
    refine wq_ldc2_w (z := 48) (zlitL rfl) kc_X11_125 dX11_halfOf_13 ?_
    refine wq_ldc2_w (z := 57) (zlitL rfl) kc_X11_127 dX11_halfOf_16 ?_
    refine wN_S (As := [vL p1, vL 48, vL 57]) md_X11_in ms_X11_in lk_X11_91 rfl rfl (Nat.le_of_ble_eq_true rfl) (Nat.le_of_ble_eq_true rfl) (d' := d - 1) (by omega) dX11_halfOf_19 (hv.1 c1) (fun v9 h3 q4 => ?_)
    obtain ⟨z2, rfl, hS5, q4⟩ := q4
    refine wq_st (st' := [vI z2]) rfl ?_
    refine wq_if_eq 32 rfl dX11_halfOf_22 (fun c6 => ?_) (fun c6 => ?_)
    · refine wq_iload_n 0 rfl rfl dX11_halfOf_32 ?_
      refine wq_i2l dX11_halfOf_33 ?_
      refine wq_ldc2_w (z := 97) (zlitL rfl) kc_X11_135 dX11_halfOf_34 ?_
      refine wq_ldc2_w (z := 102) (zlitL rfl) kc_X11_210 dX11_halfOf_37 ?_
      refine wN_S (As := [vL p1, vL 97, vL 102]) md_X11_in ms_X11_in lk_X11_91 rfl rfl (Nat.le_of_ble_eq_true rfl) (Nat.le_of_ble_eq_true rfl) (d' := d - 1) (by omega) dX11_halfOf_40 (q4.1 c6) (fun v9 h8 q9 => ?_)
      obtain ⟨z7, rfl, hS10, q9⟩ := q9
      refine wq_st (st' := [vI z7]) rfl ?_
      refine wq_if_eq 56 rfl dX11_halfOf_43 (fun c11 => ?_) (fun c11 => ?_)
      · refine wq_iconst (z := -1) (zlit rfl) dX11_halfOf_56 ?_
        exact wp_iret rfl dX11_halfOf_57 (q9.1 c11)
      · refine wq_iload_n 0 rfl rfl dX11_halfOf_46 ?_
        refine wq_bipush (z := 97) (zlit rfl) rfl dX11_halfOf_47 ?_
        refine wq_isub (q9.2 c11).1 dX11_halfOf_49 ?_
        refine wq_bipush (z := 10) (zlit rfl) rfl dX11_halfOf_50 ?_
        refine wq_iadd (q9.2 c11).2.1 dX11_halfOf_52 ?_
        refine wq_goto 57 rfl dX11_halfOf_53 ?_
        exact wp_iret rfl dX11_halfOf_57 (q9.2 c11).2.2
    · refine wq_iload_n 0 rfl rfl dX11_halfOf_25 ?_
      refine wq_bipush (z := 48) (zlit rfl) rfl dX11_halfOf_26 ?_
      refine wq_isub (q4.2 c6).1 dX11_halfOf_28 ?_
      refine wq_goto 57 rfl dX11_halfOf_29 ?_
      exact wp_iret rfl dX11_halfOf_57 (q4.2 c6).2
  · refine wq_bipush (z := 16) (zlit rfl) rfl dX11_halfOf_6 ?_
    refine wq_goto 57 rfl dX11_halfOf_8 ?_
    exact wp_iret rfl dX11_halfOf_57 (hv.2 c1)
theorem dX11_patternFault_0 : decode cX11_patternFault 0 = .ok (.aload_n 0, 1) := by decide +kernel
theorem dX11_patternFault_1 : decode cX11_patternFault 1 = .ok (.iconst 0, 1) := by decide +kernel
theorem dX11_patternFault_2 : decode cX11_patternFault 2 = .ok (.putfield 101, 3) := by decide +kernel
theorem dX11_patternFault_5 : decode cX11_patternFault 5 = .ok (.aload_n 0, 1) := by decide +kernel
theorem dX11_patternFault_6 : decode cX11_patternFault 6 = .ok (.iconst 0, 1) := by decide +kernel
theorem dX11_patternFault_7 : decode cX11_patternFault 7 = .ok (.putfield 212, 3) := by decide +kernel
theorem dX11_patternFault_10 : decode cX11_patternFault 10 = .ok (.aload_n 0, 1) := by decide +kernel
theorem dX11_patternFault_11 : decode cX11_patternFault 11 = .ok (.invokevirtual 111, 3) := by decide +kernel
theorem dX11_patternFault_14 : decode cX11_patternFault 14 = .ok (.aload_n 0, 1) := by decide +kernel
theorem dX11_patternFault_15 : decode cX11_patternFault 15 = .ok (.getfield 101, 3) := by decide +kernel
theorem dX11_patternFault_18 : decode cX11_patternFault 18 = .ok (.aload_n 0, 1) := by decide +kernel
theorem dX11_patternFault_19 : decode cX11_patternFault 19 = .ok (.getfield 97, 3) := by decide +kernel
theorem dX11_patternFault_22 : decode cX11_patternFault 22 = .ok (.if_icmp .ge 117, 3) := by decide +kernel
theorem dX11_patternFault_25 : decode cX11_patternFault 25 = .ok (.aload_n 0, 1) := by decide +kernel
theorem dX11_patternFault_26 : decode cX11_patternFault 26 = .ok (.getfield 212, 3) := by decide +kernel
theorem dX11_patternFault_29 : decode cX11_patternFault 29 = .ok (.bipush 16, 2) := by decide +kernel
theorem dX11_patternFault_31 : decode cX11_patternFault 31 = .ok (.if_icmp .eq 13, 3) := by decide +kernel
theorem dX11_patternFault_34 : decode cX11_patternFault 34 = .ok (.aload_n 0, 1) := by decide +kernel
theorem dX11_patternFault_35 : decode cX11_patternFault 35 = .ok (.invokevirtual 104, 3) := by decide +kernel
theorem dX11_patternFault_38 : decode cX11_patternFault 38 = .ok (.invokestatic 215, 3) := by decide +kernel
theorem dX11_patternFault_41 : decode cX11_patternFault 41 = .ok (.ifCond .ge 8, 3) := by decide +kernel
theorem dX11_patternFault_44 : decode cX11_patternFault 44 = .ok (.aload_n 0, 1) := by decide +kernel
theorem dX11_patternFault_45 : decode cX11_patternFault 45 = .ok (.getfield 101, 3) := by decide +kernel
theorem dX11_patternFault_48 : decode cX11_patternFault 48 = .ok (.ireturn, 1) := by decide +kernel
theorem dX11_patternFault_49 : decode cX11_patternFault 49 = .ok (.aload_n 0, 1) := by decide +kernel
theorem dX11_patternFault_50 : decode cX11_patternFault 50 = .ok (.getfield 37, 3) := by decide +kernel
theorem dX11_patternFault_53 : decode cX11_patternFault 53 = .ok (.iconst 2, 1) := by decide +kernel
theorem dX11_patternFault_54 : decode cX11_patternFault 54 = .ok (.aload_n 0, 1) := by decide +kernel
theorem dX11_patternFault_55 : decode cX11_patternFault 55 = .ok (.getfield 212, 3) := by decide +kernel
theorem dX11_patternFault_58 : decode cX11_patternFault 58 = .ok (.imul, 1) := by decide +kernel
theorem dX11_patternFault_59 : decode cX11_patternFault 59 = .ok (.aload_n 0, 1) := by decide +kernel
theorem dX11_patternFault_60 : decode cX11_patternFault 60 = .ok (.invokevirtual 104, 3) := by decide +kernel
theorem dX11_patternFault_63 : decode cX11_patternFault 63 = .ok (.invokestatic 215, 3) := by decide +kernel
theorem dX11_patternFault_66 : decode cX11_patternFault 66 = .ok (.iastore, 1) := by decide +kernel
theorem dX11_patternFault_67 : decode cX11_patternFault 67 = .ok (.aload_n 0, 1) := by decide +kernel
theorem dX11_patternFault_68 : decode cX11_patternFault 68 = .ok (.dup, 1) := by decide +kernel
theorem dX11_patternFault_69 : decode cX11_patternFault 69 = .ok (.getfield 101, 3) := by decide +kernel
theorem dX11_patternFault_72 : decode cX11_patternFault 72 = .ok (.iconst 1, 1) := by decide +kernel
theorem dX11_patternFault_73 : decode cX11_patternFault 73 = .ok (.iadd, 1) := by decide +kernel
theorem dX11_patternFault_74 : decode cX11_patternFault 74 = .ok (.putfield 101, 3) := by decide +kernel
theorem dX11_patternFault_77 : decode cX11_patternFault 77 = .ok (.aload_n 0, 1) := by decide +kernel
theorem dX11_patternFault_78 : decode cX11_patternFault 78 = .ok (.invokevirtual 104, 3) := by decide +kernel
theorem dX11_patternFault_81 : decode cX11_patternFault 81 = .ok (.invokestatic 215, 3) := by decide +kernel
theorem dX11_patternFault_84 : decode cX11_patternFault 84 = .ok (.ifCond .ge 8, 3) := by decide +kernel
theorem dX11_patternFault_87 : decode cX11_patternFault 87 = .ok (.aload_n 0, 1) := by decide +kernel
theorem dX11_patternFault_88 : decode cX11_patternFault 88 = .ok (.getfield 101, 3) := by decide +kernel
theorem dX11_patternFault_91 : decode cX11_patternFault 91 = .ok (.ireturn, 1) := by decide +kernel
theorem dX11_patternFault_92 : decode cX11_patternFault 92 = .ok (.aload_n 0, 1) := by decide +kernel
theorem dX11_patternFault_93 : decode cX11_patternFault 93 = .ok (.getfield 37, 3) := by decide +kernel
theorem dX11_patternFault_96 : decode cX11_patternFault 96 = .ok (.iconst 2, 1) := by decide +kernel
theorem dX11_patternFault_97 : decode cX11_patternFault 97 = .ok (.aload_n 0, 1) := by decide +kernel
theorem dX11_patternFault_98 : decode cX11_patternFault 98 = .ok (.getfield 212, 3) := by decide +kernel
theorem dX11_patternFault_101 : decode cX11_patternFault 101 = .ok (.imul, 1) := by decide +kernel
theorem dX11_patternFault_102 : decode cX11_patternFault 102 = .ok (.iconst 1, 1) := by decide +kernel
theorem dX11_patternFault_103 : decode cX11_patternFault 103 = .ok (.iadd, 1) := by decide +kernel
theorem dX11_patternFault_104 : decode cX11_patternFault 104 = .ok (.aload_n 0, 1) := by decide +kernel
theorem dX11_patternFault_105 : decode cX11_patternFault 105 = .ok (.invokevirtual 104, 3) := by decide +kernel
theorem dX11_patternFault_108 : decode cX11_patternFault 108 = .ok (.invokestatic 215, 3) := by decide +kernel
theorem dX11_patternFault_111 : decode cX11_patternFault 111 = .ok (.iastore, 1) := by decide +kernel
theorem dX11_patternFault_112 : decode cX11_patternFault 112 = .ok (.aload_n 0, 1) := by decide +kernel
theorem dX11_patternFault_113 : decode cX11_patternFault 113 = .ok (.dup, 1) := by decide +kernel
theorem dX11_patternFault_114 : decode cX11_patternFault 114 = .ok (.getfield 101, 3) := by decide +kernel
theorem dX11_patternFault_117 : decode cX11_patternFault 117 = .ok (.iconst 1, 1) := by decide +kernel
theorem dX11_patternFault_118 : decode cX11_patternFault 118 = .ok (.iadd, 1) := by decide +kernel
theorem dX11_patternFault_119 : decode cX11_patternFault 119 = .ok (.putfield 101, 3) := by decide +kernel
theorem dX11_patternFault_122 : decode cX11_patternFault 122 = .ok (.aload_n 0, 1) := by decide +kernel
theorem dX11_patternFault_123 : decode cX11_patternFault 123 = .ok (.dup, 1) := by decide +kernel
theorem dX11_patternFault_124 : decode cX11_patternFault 124 = .ok (.getfield 212, 3) := by decide +kernel
theorem dX11_patternFault_127 : decode cX11_patternFault 127 = .ok (.iconst 1, 1) := by decide +kernel
theorem dX11_patternFault_128 : decode cX11_patternFault 128 = .ok (.iadd, 1) := by decide +kernel
theorem dX11_patternFault_129 : decode cX11_patternFault 129 = .ok (.putfield 212, 3) := by decide +kernel
theorem dX11_patternFault_132 : decode cX11_patternFault 132 = .ok (.aload_n 0, 1) := by decide +kernel
theorem dX11_patternFault_133 : decode cX11_patternFault 133 = .ok (.invokevirtual 111, 3) := by decide +kernel
theorem dX11_patternFault_136 : decode cX11_patternFault 136 = .ok (.goto (-122), 3) := by decide +kernel
theorem dX11_patternFault_139 : decode cX11_patternFault 139 = .ok (.aload_n 0, 1) := by decide +kernel
theorem dX11_patternFault_140 : decode cX11_patternFault 140 = .ok (.getfield 212, 3) := by decide +kernel
theorem dX11_patternFault_143 : decode cX11_patternFault 143 = .ok (.ifCond .ne 10, 3) := by decide +kernel
theorem dX11_patternFault_146 : decode cX11_patternFault 146 = .ok (.aload_n 0, 1) := by decide +kernel
theorem dX11_patternFault_147 : decode cX11_patternFault 147 = .ok (.getfield 97, 3) := by decide +kernel
theorem dX11_patternFault_150 : decode cX11_patternFault 150 = .ok (.goto 6, 3) := by decide +kernel
theorem dX11_patternFault_153 : decode cX11_patternFault 153 = .ok (.sipush (-1009), 3) := by decide +kernel
theorem dX11_patternFault_156 : decode cX11_patternFault 156 = .ok (.ireturn, 1) := by decide +kernel
theorem vc_X11_patternFault_0 {G : zG} {d : Nat} {Q : Option zV → zHp → Prop}  (h : zHp) (hS : zSh h) (hd : 2 ≤ d) (I_14 : zHp → Prop) (hI_14 : ∀  (h' : zHp), I_14  h' → wpN G d M_X11_patternFault 14 [(0, vR 343)] [] h' Q) 
    (hv : (∀ h1 : zHp, h1 = sI h 343 15 0 → (∀ h3 : zHp, h3 = sI h1 343 22 0 → (wpN G (d - 1) M_X11_blanks 0 (zar 0 [vR 343]) [] h3 (qV (fun h6 => zSh h6 ∧ (zSh h6 → I_14  h6))))))) : wpN G d M_X11_patternFault 0 [(0, vR 343)] [] h Q := by
  refine wq_aload_n 0 rfl rfl dX11_patternFault_0 ?_
  refine wq_iconst (z := 0) (zlit rfl) dX11_patternFault_1 ?_
  refine wq_putI fk_X11_101 tT_343 rfl rfl dX11_patternFault_2 ?_
  refine wq_toph (fun h1 e2 => ?_)
  have sh1 : zSh h1 := zSh_of e2 hS
  refine wq_aload_n 0 rfl rfl dX11_patternFault_5 ?_
  refine wq_iconst (z := 0) (zlit rfl) dX11_patternFault_6 ?_
  refine wq_putI fk_X11_212 tT_343 rfl rfl dX11_patternFault_7 ?_
  refine wq_toph (fun h3 e4 => ?_)
  have sh3 : zSh h3 := zSh_of e4 sh1
  refine wq_aload_n 0 rfl rfl dX11_patternFault_10 ?_
  refine wN_V (As := []) vm_X11_blanks lk_X11_111 tT_343 rfl rfl (Nat.le_of_ble_eq_true rfl) (Nat.le_of_ble_eq_true rfl) (d' := d - 1) (by omega) dX11_patternFault_11 ((hv h1 e2) h3 e4) (fun v9 h6 q7 => ?_)
  obtain ⟨rfl, hS8, q7⟩ := q7
  refine wq_st (st' := []) rfl ?_
  exact wq_pick [0] rfl (hI_14  h6 (q7 hS8))
theorem vc_X11_patternFault_14 {G : zG} {d : Nat} {Q : Option zV → zHp → Prop}  (h : zHp) (hS : zSh h) (hd : 2 ≤ d) (I_14 : zHp → Prop) (hI_14 : ∀  (h' : zHp), I_14  h' → wpN G d M_X11_patternFault 14 [(0, vR 343)] [] h' Q) 
    (hv : (((gI h 343 12) ≤ (gI h 343 15) → (((gI h 343 22) ≠ 0 → Q (some (vI (-1009))) h) ∧ ((gI h 343 22) = 0 → Q (some (vI (gI h 343 12))) h))) ∧ ((gI h 343 15) < (gI h 343 12) → (((gI h 343 22) = 16 → Q (some (vI (gI h 343 15))) h) ∧ ((gI h 343 22) ≠ 16 → (wpN G (d - 1) M_X11_next 0 (zar 0 [vR 343]) [] h (qI (fun z4 h5 => zSh h5 ∧ (wpN G (d - 1) M_X11_halfOf 0 (zar 0 [vI z4]) [] h5 (qI (fun z8 h9 => zSh h9 ∧ ((0 ≤ z8 → ((-2147483648 ≤ 2 * (gI h9 343 22) ∧ 2 * (gI h9 343 22) ≤ 2147483647) ∧ (wpN G (d - 1) M_X11_next 0 (zar 0 [vR 343]) [] h9 (qI (fun z13 h14 => zSh h14 ∧ (wpN G (d - 1) M_X11_halfOf 0 (zar 0 [vI z13]) [] h14 (qI (fun z17 h18 => zSh h18 ∧ (((0 : Int) ≤ (2 * (gI h9 343 22)) ∧ (2 * (gI h9 343 22)) < ((32 : Nat) : Int)) ∧ (∀ h21 : zHp, h21 = sI h18 353 (2 * (gI h9 343 22)).toNat z17 → ((-2147483648 ≤ (gI h21 343 15) + 1 ∧ (gI h21 343 15) + 1 ≤ 2147483647) ∧ (∀ h23 : zHp, h23 = sI h21 343 15 ((gI h21 343 15) + 1) → (wpN G (d - 1) M_X11_next 0 (zar 0 [vR 343]) [] h23 (qI (fun z25 h26 => zSh h26 ∧ (wpN G (d - 1) M_X11_halfOf 0 (zar 0 [vI z25]) [] h26 (qI (fun z29 h30 => zSh h30 ∧ ((0 ≤ z29 → ((-2147483648 ≤ 2 * (gI h30 343 22) ∧ 2 * (gI h30 343 22) ≤ 2147483647) ∧ ((-2147483648 ≤ (2 * (gI h30 343 22)) + 1 ∧ (2 * (gI h30 343 22)) + 1 ≤ 2147483647) ∧ (wpN G (d - 1) M_X11_next 0 (zar 0 [vR 343]) [] h30 (qI (fun z34 h35 => zSh h35 ∧ (wpN G (d - 1) M_X11_halfOf 0 (zar 0 [vI z34]) [] h35 (qI (fun z38 h39 => zSh h39 ∧ (((0 : Int) ≤ ((2 * (gI h30 343 22)) + 1) ∧ ((2 * (gI h30 343 22)) + 1) < ((32 : Nat) : Int)) ∧ (∀ h42 : zHp, h42 = sI h39 353 ((2 * (gI h30 343 22)) + 1).toNat z38 → ((-2147483648 ≤ (gI h42 343 15) + 1 ∧ (gI h42 343 15) + 1 ≤ 2147483647) ∧ (∀ h44 : zHp, h44 = sI h42 343 15 ((gI h42 343 15) + 1) → ((-2147483648 ≤ (gI h44 343 22) + 1 ∧ (gI h44 343 22) + 1 ≤ 2147483647) ∧ (∀ h46 : zHp, h46 = sI h44 343 22 ((gI h44 343 22) + 1) → (wpN G (d - 1) M_X11_blanks 0 (zar 0 [vR 343]) [] h46 (qV (fun h49 => zSh h49 ∧ (zSh h49 → I_14  h49))))))))))))))))))) ∧ (z29 < 0 → Q (some (vI (gI h30 343 15))) h30)))))))))))))))))))) ∧ (z8 < 0 → Q (some (vI (gI h9 343 15))) h9))))))))))))) : wpN G d M_X11_patternFault 14 [(0, vR 343)] [] h Q := by
  refine wq_aload_n 0 rfl rfl dX11_patternFault_14 ?_
  refine wq_getI fk_X11_101 tT_343 (fun _ _ _ => rfl) dX11_patternFault_15 ?_
  refine wq_aload_n 0 rfl rfl dX11_patternFault_18 ?_
  refine wq_getI fk_X11_97 tT_343 (fun _ _ _ => rfl) dX11_patternFault_19 ?_
  refine wq_icmp_ge 139 rfl dX11_patternFault_22 (fun c1 => ?_) (fun c1 => ?_)
  · refine wq_aload_n 0 rfl rfl dX11_patternFault_139 ?_
    refine wq_getI fk_X11_212 tT_343 (fun _ _ _ => rfl) dX11_patternFault_140 ?_
    refine wq_if_ne 153 rfl dX11_patternFault_143 (fun c2 => ?_) (fun c2 => ?_)
    · refine wq_sipush (z := -1009) (zlit rfl) rfl dX11_patternFault_153 ?_
      exact wp_iret rfl dX11_patternFault_156 ((hv.1 c1).1 c2)
    · refine wq_aload_n 0 rfl rfl dX11_patternFault_146 ?_
      refine wq_getI fk_X11_97 tT_343 (fun _ _ _ => rfl) dX11_patternFault_147 ?_
      refine wq_goto 156 rfl dX11_patternFault_150 ?_
      exact wp_iret rfl dX11_patternFault_156 ((hv.1 c1).2 c2)
  · refine wq_aload_n 0 rfl rfl dX11_patternFault_25 ?_
    refine wq_getI fk_X11_212 tT_343 (fun _ _ _ => rfl) dX11_patternFault_26 ?_
    refine wq_bipush (z := 16) (zlit rfl) rfl dX11_patternFault_29 ?_
    refine wq_icmp_eq 44 rfl dX11_patternFault_31 (fun c3 => ?_) (fun c3 => ?_)
    · refine wq_aload_n 0 rfl rfl dX11_patternFault_44 ?_
      refine wq_getI fk_X11_101 tT_343 (fun _ _ _ => rfl) dX11_patternFault_45 ?_
      exact wp_iret rfl dX11_patternFault_48 ((hv.2 c1).1 c3)
    · refine wq_aload_n 0 rfl rfl dX11_patternFault_34 ?_
      refine wN_V (As := []) vm_X11_next lk_X11_104 tT_343 rfl rfl (Nat.le_of_ble_eq_true rfl) (Nat.le_of_ble_eq_true rfl) (d' := d - 1) (by omega) dX11_patternFault_35 ((hv.2 c1).2 c3) (fun v9 h5 q6 => ?_)
      obtain ⟨z4, rfl, hS7, q6⟩ := q6
      refine wq_st (st' := [vI z4]) rfl ?_
      refine wN_S (As := [vI z4]) md_X11_halfOf ms_X11_halfOf lk_X11_215 rfl rfl (Nat.le_of_ble_eq_true rfl) (Nat.le_of_ble_eq_true rfl) (d' := d - 1) (by omega) dX11_patternFault_38 q6 (fun v9 h9 q10 => ?_)
      obtain ⟨z8, rfl, hS11, q10⟩ := q10
      refine wq_st (st' := [vI z8]) rfl ?_
      refine wq_if_ge 49 rfl dX11_patternFault_41 (fun c12 => ?_) (fun c12 => ?_)
      · refine wq_aload_n 0 rfl rfl dX11_patternFault_49 ?_
        refine wq_getR fk_X11_37 tT_343 (fun _ _ _ => rfl) (sh_11_21 hS11) (by decide) dX11_patternFault_50 ?_
        refine wq_iconst (z := 2) (zlit rfl) dX11_patternFault_53 ?_
        refine wq_aload_n 0 rfl rfl dX11_patternFault_54 ?_
        refine wq_getI fk_X11_212 tT_343 (fun _ _ _ => rfl) dX11_patternFault_55 ?_
        refine wq_imul (q10.1 c12).1 dX11_patternFault_58 ?_
        refine wq_aload_n 0 rfl rfl dX11_patternFault_59 ?_
        refine wN_V (As := []) vm_X11_next lk_X11_104 tT_343 rfl rfl (Nat.le_of_ble_eq_true rfl) (Nat.le_of_ble_eq_true rfl) (d' := d - 1) (by omega) dX11_patternFault_60 (q10.1 c12).2 (fun v9 h14 q15 => ?_)
        obtain ⟨z13, rfl, hS16, q15⟩ := q15
        refine wq_st (st' := [vI z13, vI (2 * (gI h9 343 22)), vR 353]) rfl ?_
        refine wN_S (As := [vI z13]) md_X11_halfOf ms_X11_halfOf lk_X11_215 rfl rfl (Nat.le_of_ble_eq_true rfl) (Nat.le_of_ble_eq_true rfl) (d' := d - 1) (by omega) dX11_patternFault_63 q15 (fun v9 h18 q19 => ?_)
        obtain ⟨z17, rfl, hS20, q19⟩ := q19
        refine wq_st (st' := [vI z17, vI (2 * (gI h9 343 22)), vR 353]) rfl ?_
        refine wq_iast tT_353 q19.1.1 q19.1.2 dX11_patternFault_66 ?_
        refine wq_toph (fun h21 e22 => ?_)
        have sh21 : zSh h21 := zSh_of e22 hS20
        refine wq_aload_n 0 rfl rfl dX11_patternFault_67 ?_
        refine wq_dup rfl dX11_patternFault_68 ?_
        refine wq_getI fk_X11_101 tT_343 (fun _ _ _ => rfl) dX11_patternFault_69 ?_
        refine wq_iconst (z := 1) (zlit rfl) dX11_patternFault_72 ?_
        refine wq_iadd (q19.2 h21 e22).1 dX11_patternFault_73 ?_
        refine wq_putI fk_X11_101 tT_343 rfl rfl dX11_patternFault_74 ?_
        refine wq_toph (fun h23 e24 => ?_)
        have sh23 : zSh h23 := zSh_of e24 sh21
        refine wq_aload_n 0 rfl rfl dX11_patternFault_77 ?_
        refine wN_V (As := []) vm_X11_next lk_X11_104 tT_343 rfl rfl (Nat.le_of_ble_eq_true rfl) (Nat.le_of_ble_eq_true rfl) (d' := d - 1) (by omega) dX11_patternFault_78 ((q19.2 h21 e22).2 h23 e24) (fun v9 h26 q27 => ?_)
        obtain ⟨z25, rfl, hS28, q27⟩ := q27
        refine wq_st (st' := [vI z25]) rfl ?_
        refine wN_S (As := [vI z25]) md_X11_halfOf ms_X11_halfOf lk_X11_215 rfl rfl (Nat.le_of_ble_eq_true rfl) (Nat.le_of_ble_eq_true rfl) (d' := d - 1) (by omega) dX11_patternFault_81 q27 (fun v9 h30 q31 => ?_)
        obtain ⟨z29, rfl, hS32, q31⟩ := q31
        refine wq_st (st' := [vI z29]) rfl ?_
        refine wq_if_ge 92 rfl dX11_patternFault_84 (fun c33 => ?_) (fun c33 => ?_)
        · refine wq_aload_n 0 rfl rfl dX11_patternFault_92 ?_
          refine wq_getR fk_X11_37 tT_343 (fun _ _ _ => rfl) (sh_11_21 hS32) (by decide) dX11_patternFault_93 ?_
          refine wq_iconst (z := 2) (zlit rfl) dX11_patternFault_96 ?_
          refine wq_aload_n 0 rfl rfl dX11_patternFault_97 ?_
          refine wq_getI fk_X11_212 tT_343 (fun _ _ _ => rfl) dX11_patternFault_98 ?_
          refine wq_imul (q31.1 c33).1 dX11_patternFault_101 ?_
          refine wq_iconst (z := 1) (zlit rfl) dX11_patternFault_102 ?_
          refine wq_iadd (q31.1 c33).2.1 dX11_patternFault_103 ?_
          refine wq_aload_n 0 rfl rfl dX11_patternFault_104 ?_
          refine wN_V (As := []) vm_X11_next lk_X11_104 tT_343 rfl rfl (Nat.le_of_ble_eq_true rfl) (Nat.le_of_ble_eq_true rfl) (d' := d - 1) (by omega) dX11_patternFault_105 (q31.1 c33).2.2 (fun v9 h35 q36 => ?_)
          obtain ⟨z34, rfl, hS37, q36⟩ := q36
          refine wq_st (st' := [vI z34, vI ((2 * (gI h30 343 22)) + 1), vR 353]) rfl ?_
          refine wN_S (As := [vI z34]) md_X11_halfOf ms_X11_halfOf lk_X11_215 rfl rfl (Nat.le_of_ble_eq_true rfl) (Nat.le_of_ble_eq_true rfl) (d' := d - 1) (by omega) dX11_patternFault_108 q36 (fun v9 h39 q40 => ?_)
          obtain ⟨z38, rfl, hS41, q40⟩ := q40
          refine wq_st (st' := [vI z38, vI ((2 * (gI h30 343 22)) + 1), vR 353]) rfl ?_
          refine wq_iast tT_353 q40.1.1 q40.1.2 dX11_patternFault_111 ?_
          refine wq_toph (fun h42 e43 => ?_)
          have sh42 : zSh h42 := zSh_of e43 hS41
          refine wq_aload_n 0 rfl rfl dX11_patternFault_112 ?_
          refine wq_dup rfl dX11_patternFault_113 ?_
          refine wq_getI fk_X11_101 tT_343 (fun _ _ _ => rfl) dX11_patternFault_114 ?_
          refine wq_iconst (z := 1) (zlit rfl) dX11_patternFault_117 ?_
          refine wq_iadd (q40.2 h42 e43).1 dX11_patternFault_118 ?_
          refine wq_putI fk_X11_101 tT_343 rfl rfl dX11_patternFault_119 ?_
          refine wq_toph (fun h44 e45 => ?_)
          have sh44 : zSh h44 := zSh_of e45 sh42
          refine wq_aload_n 0 rfl rfl dX11_patternFault_122 ?_
          refine wq_dup rfl dX11_patternFault_123 ?_
          refine wq_getI fk_X11_212 tT_343 (fun _ _ _ => rfl) dX11_patternFault_124 ?_
          refine wq_iconst (z := 1) (zlit rfl) dX11_patternFault_127 ?_
          refine wq_iadd ((q40.2 h42 e43).2 h44 e45).1 dX11_patternFault_128 ?_
          refine wq_putI fk_X11_212 tT_343 rfl rfl dX11_patternFault_129 ?_
          refine wq_toph (fun h46 e47 => ?_)
          have sh46 : zSh h46 := zSh_of e47 sh44
          refine wq_aload_n 0 rfl rfl dX11_patternFault_132 ?_
          refine wN_V (As := []) vm_X11_blanks lk_X11_111 tT_343 rfl rfl (Nat.le_of_ble_eq_true rfl) (Nat.le_of_ble_eq_true rfl) (d' := d - 1) (by omega) dX11_patternFault_133 (((q40.2 h42 e43).2 h44 e45).2 h46 e47) (fun v9 h49 q50 => ?_)
          obtain ⟨rfl, hS51, q50⟩ := q50
          refine wq_st (st' := []) rfl ?_
          refine wq_goto 14 rfl dX11_patternFault_136 ?_
          exact wq_pick [0] rfl (hI_14  h49 (q50 hS51))
        · refine wq_aload_n 0 rfl rfl dX11_patternFault_87 ?_
          refine wq_getI fk_X11_101 tT_343 (fun _ _ _ => rfl) dX11_patternFault_88 ?_
          exact wp_iret rfl dX11_patternFault_91 (q31.2 c33)
      · refine wq_aload_n 0 rfl rfl dX11_patternFault_44 ?_
        refine wq_getI fk_X11_101 tT_343 (fun _ _ _ => rfl) dX11_patternFault_45 ?_
        exact wp_iret rfl dX11_patternFault_48 (q10.2 c12)
theorem dX11_matchesAt_0 : decode cX11_matchesAt 0 = .ok (.iload_n 1, 1) := by decide +kernel
theorem dX11_matchesAt_1 : decode cX11_matchesAt 1 = .ok (.aload_n 0, 1) := by decide +kernel
theorem dX11_matchesAt_2 : decode cX11_matchesAt 2 = .ok (.getfield 212, 3) := by decide +kernel
theorem dX11_matchesAt_5 : decode cX11_matchesAt 5 = .ok (.iadd, 1) := by decide +kernel
theorem dX11_matchesAt_6 : decode cX11_matchesAt 6 = .ok (.aload_n 0, 1) := by decide +kernel
theorem dX11_matchesAt_7 : decode cX11_matchesAt 7 = .ok (.invokevirtual 218, 3) := by decide +kernel
theorem dX11_matchesAt_10 : decode cX11_matchesAt 10 = .ok (.if_icmp .gt 7, 3) := by decide +kernel
theorem dX11_matchesAt_13 : decode cX11_matchesAt 13 = .ok (.iconst 1, 1) := by decide +kernel
theorem dX11_matchesAt_14 : decode cX11_matchesAt 14 = .ok (.goto 4, 3) := by decide +kernel
theorem dX11_matchesAt_17 : decode cX11_matchesAt 17 = .ok (.iconst 0, 1) := by decide +kernel
theorem dX11_matchesAt_18 : decode cX11_matchesAt 18 = .ok (.istore_n 2, 1) := by decide +kernel
theorem dX11_matchesAt_19 : decode cX11_matchesAt 19 = .ok (.iconst 0, 1) := by decide +kernel
theorem dX11_matchesAt_20 : decode cX11_matchesAt 20 = .ok (.istore_n 3, 1) := by decide +kernel
theorem dX11_matchesAt_21 : decode cX11_matchesAt 21 = .ok (.iload_n 3, 1) := by decide +kernel
theorem dX11_matchesAt_22 : decode cX11_matchesAt 22 = .ok (.aload_n 0, 1) := by decide +kernel
theorem dX11_matchesAt_23 : decode cX11_matchesAt 23 = .ok (.getfield 212, 3) := by decide +kernel
theorem dX11_matchesAt_26 : decode cX11_matchesAt 26 = .ok (.if_icmp .ge 85, 3) := by decide +kernel
theorem dX11_matchesAt_29 : decode cX11_matchesAt 29 = .ok (.iload_n 2, 1) := by decide +kernel
theorem dX11_matchesAt_30 : decode cX11_matchesAt 30 = .ok (.ifCond .eq 81, 3) := by decide +kernel
theorem dX11_matchesAt_33 : decode cX11_matchesAt 33 = .ok (.aload_n 0, 1) := by decide +kernel
theorem dX11_matchesAt_34 : decode cX11_matchesAt 34 = .ok (.getfield 7, 3) := by decide +kernel
theorem dX11_matchesAt_37 : decode cX11_matchesAt 37 = .ok (.iload_n 1, 1) := by decide +kernel
theorem dX11_matchesAt_38 : decode cX11_matchesAt 38 = .ok (.iload_n 3, 1) := by decide +kernel
theorem dX11_matchesAt_39 : decode cX11_matchesAt 39 = .ok (.iadd, 1) := by decide +kernel
theorem dX11_matchesAt_40 : decode cX11_matchesAt 40 = .ok (.iaload, 1) := by decide +kernel
theorem dX11_matchesAt_41 : decode cX11_matchesAt 41 = .ok (.istore 4, 2) := by decide +kernel
theorem dX11_matchesAt_43 : decode cX11_matchesAt 43 = .ok (.aload_n 0, 1) := by decide +kernel
theorem dX11_matchesAt_44 : decode cX11_matchesAt 44 = .ok (.getfield 37, 3) := by decide +kernel
theorem dX11_matchesAt_47 : decode cX11_matchesAt 47 = .ok (.iconst 2, 1) := by decide +kernel
theorem dX11_matchesAt_48 : decode cX11_matchesAt 48 = .ok (.iload_n 3, 1) := by decide +kernel
theorem dX11_matchesAt_49 : decode cX11_matchesAt 49 = .ok (.imul, 1) := by decide +kernel
theorem dX11_matchesAt_50 : decode cX11_matchesAt 50 = .ok (.iaload, 1) := by decide +kernel
theorem dX11_matchesAt_51 : decode cX11_matchesAt 51 = .ok (.istore 5, 2) := by decide +kernel
theorem dX11_matchesAt_53 : decode cX11_matchesAt 53 = .ok (.aload_n 0, 1) := by decide +kernel
theorem dX11_matchesAt_54 : decode cX11_matchesAt 54 = .ok (.getfield 37, 3) := by decide +kernel
theorem dX11_matchesAt_57 : decode cX11_matchesAt 57 = .ok (.iconst 2, 1) := by decide +kernel
theorem dX11_matchesAt_58 : decode cX11_matchesAt 58 = .ok (.iload_n 3, 1) := by decide +kernel
theorem dX11_matchesAt_59 : decode cX11_matchesAt 59 = .ok (.imul, 1) := by decide +kernel
theorem dX11_matchesAt_60 : decode cX11_matchesAt 60 = .ok (.iconst 1, 1) := by decide +kernel
theorem dX11_matchesAt_61 : decode cX11_matchesAt 61 = .ok (.iadd, 1) := by decide +kernel
theorem dX11_matchesAt_62 : decode cX11_matchesAt 62 = .ok (.iaload, 1) := by decide +kernel
theorem dX11_matchesAt_63 : decode cX11_matchesAt 63 = .ok (.istore 6, 2) := by decide +kernel
theorem dX11_matchesAt_65 : decode cX11_matchesAt 65 = .ok (.iload 5, 2) := by decide +kernel
theorem dX11_matchesAt_67 : decode cX11_matchesAt 67 = .ok (.bipush 16, 2) := by decide +kernel
theorem dX11_matchesAt_69 : decode cX11_matchesAt 69 = .ok (.if_icmp .eq 13, 3) := by decide +kernel
theorem dX11_matchesAt_72 : decode cX11_matchesAt 72 = .ok (.iload 5, 2) := by decide +kernel
theorem dX11_matchesAt_74 : decode cX11_matchesAt 74 = .ok (.iload 4, 2) := by decide +kernel
theorem dX11_matchesAt_76 : decode cX11_matchesAt 76 = .ok (.bipush 16, 2) := by decide +kernel
theorem dX11_matchesAt_78 : decode cX11_matchesAt 78 = .ok (.idiv, 1) := by decide +kernel
theorem dX11_matchesAt_79 : decode cX11_matchesAt 79 = .ok (.if_icmp .ne 24, 3) := by decide +kernel
theorem dX11_matchesAt_82 : decode cX11_matchesAt 82 = .ok (.iload 6, 2) := by decide +kernel
theorem dX11_matchesAt_84 : decode cX11_matchesAt 84 = .ok (.bipush 16, 2) := by decide +kernel
theorem dX11_matchesAt_86 : decode cX11_matchesAt 86 = .ok (.if_icmp .eq 13, 3) := by decide +kernel
theorem dX11_matchesAt_89 : decode cX11_matchesAt 89 = .ok (.iload 6, 2) := by decide +kernel
theorem dX11_matchesAt_91 : decode cX11_matchesAt 91 = .ok (.iload 4, 2) := by decide +kernel
theorem dX11_matchesAt_93 : decode cX11_matchesAt 93 = .ok (.bipush 16, 2) := by decide +kernel
theorem dX11_matchesAt_95 : decode cX11_matchesAt 95 = .ok (.irem, 1) := by decide +kernel
theorem dX11_matchesAt_96 : decode cX11_matchesAt 96 = .ok (.if_icmp .ne 7, 3) := by decide +kernel
theorem dX11_matchesAt_99 : decode cX11_matchesAt 99 = .ok (.iconst 1, 1) := by decide +kernel
theorem dX11_matchesAt_100 : decode cX11_matchesAt 100 = .ok (.goto 4, 3) := by decide +kernel
theorem dX11_matchesAt_103 : decode cX11_matchesAt 103 = .ok (.iconst 0, 1) := by decide +kernel
theorem dX11_matchesAt_104 : decode cX11_matchesAt 104 = .ok (.istore_n 2, 1) := by decide +kernel
theorem dX11_matchesAt_105 : decode cX11_matchesAt 105 = .ok (.iinc 3 1, 3) := by decide +kernel
theorem dX11_matchesAt_108 : decode cX11_matchesAt 108 = .ok (.goto (-87), 3) := by decide +kernel
theorem dX11_matchesAt_111 : decode cX11_matchesAt 111 = .ok (.iload_n 2, 1) := by decide +kernel
theorem dX11_matchesAt_112 : decode cX11_matchesAt 112 = .ok (.ireturn, 1) := by decide +kernel
theorem vc_X11_matchesAt_0 {G : zG} {d : Nat} {Q : Option zV → zHp → Prop} (p1 : Int) (h : zHp) (hS : zSh h) (hd : 1 ≤ d) (I_21 : Int → Int → Int → zHp → Prop) (hI_21 : ∀ (y1 : Int) (y2 : Int) (y3 : Int) (h' : zHp), I_21 y1 y2 y3 h' → wpN G d M_X11_matchesAt 21 [(0, vR 343), (1, vI y1), (2, vI y2), (3, vI y3)] [] h' Q) 
    (hv : ((-2147483648 ≤ p1 + (gI h 343 22) ∧ p1 + (gI h 343 22) ≤ 2147483647) ∧ (wpN G (d - 1) M_X11_size 0 (zar 0 [vR 343]) [] h (qI (fun z1 h2 => zSh h2 ∧ ((z1 < (p1 + (gI h 343 22)) → (zSh h2 → I_21 p1 0 0 h2)) ∧ ((p1 + (gI h 343 22)) ≤ z1 → (zSh h2 → I_21 p1 1 0 h2)))))))) : wpN G d M_X11_matchesAt 0 [(0, vR 343), (1, vI p1)] [] h Q := by
  refine wq_iload_n 1 rfl rfl dX11_matchesAt_0 ?_
  refine wq_aload_n 0 rfl rfl dX11_matchesAt_1 ?_
  refine wq_getI fk_X11_212 tT_343 (fun _ _ _ => rfl) dX11_matchesAt_2 ?_
  refine wq_iadd hv.1 dX11_matchesAt_5 ?_
  refine wq_aload_n 0 rfl rfl dX11_matchesAt_6 ?_
  refine wN_V (As := []) vm_X11_size lk_X11_218 tT_343 rfl rfl (Nat.le_of_ble_eq_true rfl) (Nat.le_of_ble_eq_true rfl) (d' := d - 1) (by omega) dX11_matchesAt_7 hv.2 (fun v9 h2 q3 => ?_)
  obtain ⟨z1, rfl, hS4, q3⟩ := q3
  refine wq_st (st' := [vI z1, vI (p1 + (gI h 343 22))]) rfl ?_
  refine wq_icmp_gt 17 rfl dX11_matchesAt_10 (fun c5 => ?_) (fun c5 => ?_)
  · refine wq_iconst (z := 0) (zlit rfl) dX11_matchesAt_17 ?_
    refine wq_istore_n (ls' := [(0, vR 343), (1, vI p1), (2, vI 0)]) rfl (by decide) rfl dX11_matchesAt_18 ?_
    refine wq_iconst (z := 0) (zlit rfl) dX11_matchesAt_19 ?_
    refine wq_istore_n (ls' := [(0, vR 343), (1, vI p1), (2, vI 0), (3, vI 0)]) rfl (by decide) rfl dX11_matchesAt_20 ?_
    exact wq_pick [0, 1, 2, 3] rfl (hI_21 p1 0 0 h2 ((q3.1 c5) hS4))
  · refine wq_iconst (z := 1) (zlit rfl) dX11_matchesAt_13 ?_
    refine wq_goto 18 rfl dX11_matchesAt_14 ?_
    refine wq_istore_n (ls' := [(0, vR 343), (1, vI p1), (2, vI 1)]) rfl (by decide) rfl dX11_matchesAt_18 ?_
    refine wq_iconst (z := 0) (zlit rfl) dX11_matchesAt_19 ?_
    refine wq_istore_n (ls' := [(0, vR 343), (1, vI p1), (2, vI 1), (3, vI 0)]) rfl (by decide) rfl dX11_matchesAt_20 ?_
    exact wq_pick [0, 1, 2, 3] rfl (hI_21 p1 1 0 h2 ((q3.2 c5) hS4))
theorem vc_X11_matchesAt_21 {G : zG} {d : Nat} {Q : Option zV → zHp → Prop} (y1 : Int) (y2 : Int) (y3 : Int) (h : zHp) (hS : zSh h) (hd : 1 ≤ d) (I_21 : Int → Int → Int → zHp → Prop) (hI_21 : ∀ (y1 : Int) (y2 : Int) (y3 : Int) (h' : zHp), I_21 y1 y2 y3 h' → wpN G d M_X11_matchesAt 21 [(0, vR 343), (1, vI y1), (2, vI y2), (3, vI y3)] [] h' Q) 
    (hv : (((gI h 343 22) ≤ y3 → ((y2 = 0 ∨ y2 = 1) ∧ Q (some (vI y2)) h)) ∧ (y3 < (gI h 343 22) → ((y2 = 0 → ((y2 = 0 ∨ y2 = 1) ∧ Q (some (vI y2)) h)) ∧ (y2 ≠ 0 → ((-2147483648 ≤ y1 + y3 ∧ y1 + y3 ≤ 2147483647) ∧ (((0 : Int) ≤ (y1 + y3) ∧ (y1 + y3) < ((213 : Nat) : Int)) ∧ (∀ x3 : Int, x3 = (gI h 344 (y1 + y3).toNat) → ((-2147483648 ≤ 2 * y3 ∧ 2 * y3 ≤ 2147483647) ∧ (((0 : Int) ≤ (2 * y3) ∧ (2 * y3) < ((32 : Nat) : Int)) ∧ (∀ x5 : Int, x5 = (gI h 353 (2 * y3).toNat) → ((-2147483648 ≤ 2 * y3 ∧ 2 * y3 ≤ 2147483647) ∧ ((-2147483648 ≤ (2 * y3) + 1 ∧ (2 * y3) + 1 ≤ 2147483647) ∧ (((0 : Int) ≤ ((2 * y3) + 1) ∧ ((2 * y3) + 1) < ((32 : Nat) : Int)) ∧ (∀ x7 : Int, x7 = (gI h 353 ((2 * y3) + 1).toNat) → ((x5 = 16 → ((x7 = 16 → ((-2147483648 ≤ y3 + 1 ∧ y3 + 1 ≤ 2147483647) ∧ ∀ x11 : Int, x11 = y3 + 1 → (zSh h → I_21 y1 1 x11 h))) ∧ (x7 ≠ 16 → ((x7 ≠ (x3.tmod 16) → ((-2147483648 ≤ y3 + 1 ∧ y3 + 1 ≤ 2147483647) ∧ ∀ x14 : Int, x14 = y3 + 1 → (zSh h → I_21 y1 0 x14 h))) ∧ (x7 = (x3.tmod 16) → ((-2147483648 ≤ y3 + 1 ∧ y3 + 1 ≤ 2147483647) ∧ ∀ x16 : Int, x16 = y3 + 1 → (zSh h → I_21 y1 1 x16 h))))))) ∧ (x5 ≠ 16 → ((x5 ≠ (x3.tdiv 16) → ((-2147483648 ≤ y3 + 1 ∧ y3 + 1 ≤ 2147483647) ∧ ∀ x19 : Int, x19 = y3 + 1 → (zSh h → I_21 y1 0 x19 h))) ∧ (x5 = (x3.tdiv 16) → ((x7 = 16 → ((-2147483648 ≤ y3 + 1 ∧ y3 + 1 ≤ 2147483647) ∧ ∀ x22 : Int, x22 = y3 + 1 → (zSh h → I_21 y1 1 x22 h))) ∧ (x7 ≠ 16 → ((x7 ≠ (x3.tmod 16) → ((-2147483648 ≤ y3 + 1 ∧ y3 + 1 ≤ 2147483647) ∧ ∀ x25 : Int, x25 = y3 + 1 → (zSh h → I_21 y1 0 x25 h))) ∧ (x7 = (x3.tmod 16) → ((-2147483648 ≤ y3 + 1 ∧ y3 + 1 ≤ 2147483647) ∧ ∀ x27 : Int, x27 = y3 + 1 → (zSh h → I_21 y1 1 x27 h))))))))))))))))))))))))) : wpN G d M_X11_matchesAt 21 [(0, vR 343), (1, vI y1), (2, vI y2), (3, vI y3)] [] h Q := by
  refine wq_iload_n 3 rfl rfl dX11_matchesAt_21 ?_
  refine wq_aload_n 0 rfl rfl dX11_matchesAt_22 ?_
  refine wq_getI fk_X11_212 tT_343 (fun _ _ _ => rfl) dX11_matchesAt_23 ?_
  refine wq_icmp_ge 111 rfl dX11_matchesAt_26 (fun c1 => ?_) (fun c1 => ?_)
  · refine wq_iload_n 2 rfl rfl dX11_matchesAt_111 ?_
    exact wp_zret (hv.1 c1).1 rfl dX11_matchesAt_112 (hv.1 c1).2
  · refine wq_iload_n 2 rfl rfl dX11_matchesAt_29 ?_
    refine wq_if_eq 111 rfl dX11_matchesAt_30 (fun c2 => ?_) (fun c2 => ?_)
    · refine wq_iload_n 2 rfl rfl dX11_matchesAt_111 ?_
      exact wp_zret ((hv.2 c1).1 c2).1 rfl dX11_matchesAt_112 ((hv.2 c1).1 c2).2
    · refine wq_aload_n 0 rfl rfl dX11_matchesAt_33 ?_
      refine wq_getR fk_X11_7 tT_343 (fun _ _ _ => rfl) (sh_11_0 hS) (by decide) dX11_matchesAt_34 ?_
      refine wq_iload_n 1 rfl rfl dX11_matchesAt_37 ?_
      refine wq_iload_n 3 rfl rfl dX11_matchesAt_38 ?_
      refine wq_iadd ((hv.2 c1).2 c2).1 dX11_matchesAt_39 ?_
      refine wq_iald tT_344 ((hv.2 c1).2 c2).2.1.1 ((hv.2 c1).2 c2).2.1.2 dX11_matchesAt_40 ?_
      refine wq_topI (fun x3 e4 => ?_)
      refine wq_istore (ls' := [(0, vR 343), (1, vI y1), (2, vI y2), (3, vI y3), (4, vI x3)]) (by decide) rfl dX11_matchesAt_41 ?_
      refine wq_aload_n 0 rfl rfl dX11_matchesAt_43 ?_
      refine wq_getR fk_X11_37 tT_343 (fun _ _ _ => rfl) (sh_11_21 hS) (by decide) dX11_matchesAt_44 ?_
      refine wq_iconst (z := 2) (zlit rfl) dX11_matchesAt_47 ?_
      refine wq_iload_n 3 rfl rfl dX11_matchesAt_48 ?_
      refine wq_imul (((hv.2 c1).2 c2).2.2 x3 e4).1 dX11_matchesAt_49 ?_
      refine wq_iald tT_353 (((hv.2 c1).2 c2).2.2 x3 e4).2.1.1 (((hv.2 c1).2 c2).2.2 x3 e4).2.1.2 dX11_matchesAt_50 ?_
      refine wq_topI (fun x5 e6 => ?_)
      refine wq_istore (ls' := [(0, vR 343), (1, vI y1), (2, vI y2), (3, vI y3), (4, vI x3), (5, vI x5)]) (by decide) rfl dX11_matchesAt_51 ?_
      refine wq_aload_n 0 rfl rfl dX11_matchesAt_53 ?_
      refine wq_getR fk_X11_37 tT_343 (fun _ _ _ => rfl) (sh_11_21 hS) (by decide) dX11_matchesAt_54 ?_
      refine wq_iconst (z := 2) (zlit rfl) dX11_matchesAt_57 ?_
      refine wq_iload_n 3 rfl rfl dX11_matchesAt_58 ?_
      refine wq_imul ((((hv.2 c1).2 c2).2.2 x3 e4).2.2 x5 e6).1 dX11_matchesAt_59 ?_
      refine wq_iconst (z := 1) (zlit rfl) dX11_matchesAt_60 ?_
      refine wq_iadd ((((hv.2 c1).2 c2).2.2 x3 e4).2.2 x5 e6).2.1 dX11_matchesAt_61 ?_
      refine wq_iald tT_353 ((((hv.2 c1).2 c2).2.2 x3 e4).2.2 x5 e6).2.2.1.1 ((((hv.2 c1).2 c2).2.2 x3 e4).2.2 x5 e6).2.2.1.2 dX11_matchesAt_62 ?_
      refine wq_topI (fun x7 e8 => ?_)
      refine wq_istore (ls' := [(0, vR 343), (1, vI y1), (2, vI y2), (3, vI y3), (4, vI x3), (5, vI x5), (6, vI x7)]) (by decide) rfl dX11_matchesAt_63 ?_
      refine wq_iload 5 rfl dX11_matchesAt_65 ?_
      refine wq_bipush (z := 16) (zlit rfl) rfl dX11_matchesAt_67 ?_
      refine wq_icmp_eq 82 rfl dX11_matchesAt_69 (fun c9 => ?_) (fun c9 => ?_)
      · refine wq_iload 6 rfl dX11_matchesAt_82 ?_
        refine wq_bipush (z := 16) (zlit rfl) rfl dX11_matchesAt_84 ?_
        refine wq_icmp_eq 99 rfl dX11_matchesAt_86 (fun c10 => ?_) (fun c10 => ?_)
        · refine wq_iconst (z := 1) (zlit rfl) dX11_matchesAt_99 ?_
          refine wq_goto 104 rfl dX11_matchesAt_100 ?_
          refine wq_istore_n (ls' := [(0, vR 343), (1, vI y1), (2, vI 1), (3, vI y3), (4, vI x3), (5, vI x5), (6, vI x7)]) rfl (by decide) rfl dX11_matchesAt_104 ?_
          refine z_nm (y3 + 1) (fun x11 e12 => ?_)
          refine wq_iinc (y := x11) (ls' := [(0, vR 343), (1, vI y1), (2, vI 1), (3, vI x11), (4, vI x3), (5, vI x5), (6, vI x7)]) 3 rfl e12.symm (by rw [e12]; exact (((((((hv.2 c1).2 c2).2.2 x3 e4).2.2 x5 e6).2.2.2 x7 e8).1 c9).1 c10).1) (by decide) rfl dX11_matchesAt_105 ?_
          refine wq_goto 21 rfl dX11_matchesAt_108 ?_
          exact wq_pick [0, 1, 2, 3] rfl (hI_21 y1 1 x11 h (((((((((hv.2 c1).2 c2).2.2 x3 e4).2.2 x5 e6).2.2.2 x7 e8).1 c9).1 c10).2 x11 e12) hS))
        · refine wq_iload 6 rfl dX11_matchesAt_89 ?_
          refine wq_iload 4 rfl dX11_matchesAt_91 ?_
          refine wq_bipush (z := 16) (zlit rfl) rfl dX11_matchesAt_93 ?_
          refine wq_irem (by decide) dX11_matchesAt_95 ?_
          refine wq_icmp_ne 103 rfl dX11_matchesAt_96 (fun c13 => ?_) (fun c13 => ?_)
          · refine wq_iconst (z := 0) (zlit rfl) dX11_matchesAt_103 ?_
            refine wq_istore_n (ls' := [(0, vR 343), (1, vI y1), (2, vI 0), (3, vI y3), (4, vI x3), (5, vI x5), (6, vI x7)]) rfl (by decide) rfl dX11_matchesAt_104 ?_
            refine z_nm (y3 + 1) (fun x14 e15 => ?_)
            refine wq_iinc (y := x14) (ls' := [(0, vR 343), (1, vI y1), (2, vI 0), (3, vI x14), (4, vI x3), (5, vI x5), (6, vI x7)]) 3 rfl e15.symm (by rw [e15]; exact ((((((((hv.2 c1).2 c2).2.2 x3 e4).2.2 x5 e6).2.2.2 x7 e8).1 c9).2 c10).1 c13).1) (by decide) rfl dX11_matchesAt_105 ?_
            refine wq_goto 21 rfl dX11_matchesAt_108 ?_
            exact wq_pick [0, 1, 2, 3] rfl (hI_21 y1 0 x14 h ((((((((((hv.2 c1).2 c2).2.2 x3 e4).2.2 x5 e6).2.2.2 x7 e8).1 c9).2 c10).1 c13).2 x14 e15) hS))
          · refine wq_iconst (z := 1) (zlit rfl) dX11_matchesAt_99 ?_
            refine wq_goto 104 rfl dX11_matchesAt_100 ?_
            refine wq_istore_n (ls' := [(0, vR 343), (1, vI y1), (2, vI 1), (3, vI y3), (4, vI x3), (5, vI x5), (6, vI x7)]) rfl (by decide) rfl dX11_matchesAt_104 ?_
            refine z_nm (y3 + 1) (fun x16 e17 => ?_)
            refine wq_iinc (y := x16) (ls' := [(0, vR 343), (1, vI y1), (2, vI 1), (3, vI x16), (4, vI x3), (5, vI x5), (6, vI x7)]) 3 rfl e17.symm (by rw [e17]; exact ((((((((hv.2 c1).2 c2).2.2 x3 e4).2.2 x5 e6).2.2.2 x7 e8).1 c9).2 c10).2 c13).1) (by decide) rfl dX11_matchesAt_105 ?_
            refine wq_goto 21 rfl dX11_matchesAt_108 ?_
            exact wq_pick [0, 1, 2, 3] rfl (hI_21 y1 1 x16 h ((((((((((hv.2 c1).2 c2).2.2 x3 e4).2.2 x5 e6).2.2.2 x7 e8).1 c9).2 c10).2 c13).2 x16 e17) hS))
      · refine wq_iload 5 rfl dX11_matchesAt_72 ?_
        refine wq_iload 4 rfl dX11_matchesAt_74 ?_
        refine wq_bipush (z := 16) (zlit rfl) rfl dX11_matchesAt_76 ?_
        refine wq_idiv (by decide) dX11_matchesAt_78 ?_
        refine wq_icmp_ne 103 rfl dX11_matchesAt_79 (fun c18 => ?_) (fun c18 => ?_)
        · refine wq_iconst (z := 0) (zlit rfl) dX11_matchesAt_103 ?_
          refine wq_istore_n (ls' := [(0, vR 343), (1, vI y1), (2, vI 0), (3, vI y3), (4, vI x3), (5, vI x5), (6, vI x7)]) rfl (by decide) rfl dX11_matchesAt_104 ?_
          refine z_nm (y3 + 1) (fun x19 e20 => ?_)
          refine wq_iinc (y := x19) (ls' := [(0, vR 343), (1, vI y1), (2, vI 0), (3, vI x19), (4, vI x3), (5, vI x5), (6, vI x7)]) 3 rfl e20.symm (by rw [e20]; exact (((((((hv.2 c1).2 c2).2.2 x3 e4).2.2 x5 e6).2.2.2 x7 e8).2 c9).1 c18).1) (by decide) rfl dX11_matchesAt_105 ?_
          refine wq_goto 21 rfl dX11_matchesAt_108 ?_
          exact wq_pick [0, 1, 2, 3] rfl (hI_21 y1 0 x19 h (((((((((hv.2 c1).2 c2).2.2 x3 e4).2.2 x5 e6).2.2.2 x7 e8).2 c9).1 c18).2 x19 e20) hS))
        · refine wq_iload 6 rfl dX11_matchesAt_82 ?_
          refine wq_bipush (z := 16) (zlit rfl) rfl dX11_matchesAt_84 ?_
          refine wq_icmp_eq 99 rfl dX11_matchesAt_86 (fun c21 => ?_) (fun c21 => ?_)
          · refine wq_iconst (z := 1) (zlit rfl) dX11_matchesAt_99 ?_
            refine wq_goto 104 rfl dX11_matchesAt_100 ?_
            refine wq_istore_n (ls' := [(0, vR 343), (1, vI y1), (2, vI 1), (3, vI y3), (4, vI x3), (5, vI x5), (6, vI x7)]) rfl (by decide) rfl dX11_matchesAt_104 ?_
            refine z_nm (y3 + 1) (fun x22 e23 => ?_)
            refine wq_iinc (y := x22) (ls' := [(0, vR 343), (1, vI y1), (2, vI 1), (3, vI x22), (4, vI x3), (5, vI x5), (6, vI x7)]) 3 rfl e23.symm (by rw [e23]; exact ((((((((hv.2 c1).2 c2).2.2 x3 e4).2.2 x5 e6).2.2.2 x7 e8).2 c9).2 c18).1 c21).1) (by decide) rfl dX11_matchesAt_105 ?_
            refine wq_goto 21 rfl dX11_matchesAt_108 ?_
            exact wq_pick [0, 1, 2, 3] rfl (hI_21 y1 1 x22 h ((((((((((hv.2 c1).2 c2).2.2 x3 e4).2.2 x5 e6).2.2.2 x7 e8).2 c9).2 c18).1 c21).2 x22 e23) hS))
          · refine wq_iload 6 rfl dX11_matchesAt_89 ?_
            refine wq_iload 4 rfl dX11_matchesAt_91 ?_
            refine wq_bipush (z := 16) (zlit rfl) rfl dX11_matchesAt_93 ?_
            refine wq_irem (by decide) dX11_matchesAt_95 ?_
            refine wq_icmp_ne 103 rfl dX11_matchesAt_96 (fun c24 => ?_) (fun c24 => ?_)
            · refine wq_iconst (z := 0) (zlit rfl) dX11_matchesAt_103 ?_
              refine wq_istore_n (ls' := [(0, vR 343), (1, vI y1), (2, vI 0), (3, vI y3), (4, vI x3), (5, vI x5), (6, vI x7)]) rfl (by decide) rfl dX11_matchesAt_104 ?_
              refine z_nm (y3 + 1) (fun x25 e26 => ?_)
              refine wq_iinc (y := x25) (ls' := [(0, vR 343), (1, vI y1), (2, vI 0), (3, vI x25), (4, vI x3), (5, vI x5), (6, vI x7)]) 3 rfl e26.symm (by rw [e26]; exact (((((((((hv.2 c1).2 c2).2.2 x3 e4).2.2 x5 e6).2.2.2 x7 e8).2 c9).2 c18).2 c21).1 c24).1) (by decide) rfl dX11_matchesAt_105 ?_
              refine wq_goto 21 rfl dX11_matchesAt_108 ?_
              exact wq_pick [0, 1, 2, 3] rfl (hI_21 y1 0 x25 h (((((((((((hv.2 c1).2 c2).2.2 x3 e4).2.2 x5 e6).2.2.2 x7 e8).2 c9).2 c18).2 c21).1 c24).2 x25 e26) hS))
            · refine wq_iconst (z := 1) (zlit rfl) dX11_matchesAt_99 ?_
              refine wq_goto 104 rfl dX11_matchesAt_100 ?_
              refine wq_istore_n (ls' := [(0, vR 343), (1, vI y1), (2, vI 1), (3, vI y3), (4, vI x3), (5, vI x5), (6, vI x7)]) rfl (by decide) rfl dX11_matchesAt_104 ?_
              refine z_nm (y3 + 1) (fun x27 e28 => ?_)
              refine wq_iinc (y := x27) (ls' := [(0, vR 343), (1, vI y1), (2, vI 1), (3, vI x27), (4, vI x3), (5, vI x5), (6, vI x7)]) 3 rfl e28.symm (by rw [e28]; exact (((((((((hv.2 c1).2 c2).2.2 x3 e4).2.2 x5 e6).2.2.2 x7 e8).2 c9).2 c18).2 c21).2 c24).1) (by decide) rfl dX11_matchesAt_105 ?_
              refine wq_goto 21 rfl dX11_matchesAt_108 ?_
              exact wq_pick [0, 1, 2, 3] rfl (hI_21 y1 1 x27 h (((((((((((hv.2 c1).2 c2).2.2 x3 e4).2.2 x5 e6).2.2.2 x7 e8).2 c9).2 c18).2 c21).2 c24).2 x27 e28) hS))
theorem dX11_find_0 : decode cX11_find 0 = .ok (.iload_n 1, 1) := by decide +kernel
theorem dX11_find_1 : decode cX11_find 1 = .ok (.i2l, 1) := by decide +kernel
theorem dX11_find_2 : decode cX11_find 2 = .ok (.lconst 0, 1) := by decide +kernel
theorem dX11_find_3 : decode cX11_find 3 = .ok (.ldc2_w 221, 3) := by decide +kernel
theorem dX11_find_6 : decode cX11_find 6 = .ok (.invokestatic 91, 3) := by decide +kernel
theorem dX11_find_9 : decode cX11_find 9 = .ok (.ifCond .ne 7, 3) := by decide +kernel
theorem dX11_find_12 : decode cX11_find 12 = .ok (.sipush (-1001), 3) := by decide +kernel
theorem dX11_find_15 : decode cX11_find 15 = .ok (.ireturn, 1) := by decide +kernel
theorem dX11_find_16 : decode cX11_find 16 = .ok (.aload_n 0, 1) := by decide +kernel
theorem dX11_find_17 : decode cX11_find 17 = .ok (.invokevirtual 223, 3) := by decide +kernel
theorem dX11_find_20 : decode cX11_find 20 = .ok (.sipush (-1009), 3) := by decide +kernel
theorem dX11_find_23 : decode cX11_find 23 = .ok (.if_icmp .eq 7, 3) := by decide +kernel
theorem dX11_find_26 : decode cX11_find 26 = .ok (.sipush (-1002), 3) := by decide +kernel
theorem dX11_find_29 : decode cX11_find 29 = .ok (.ireturn, 1) := by decide +kernel
theorem dX11_find_30 : decode cX11_find 30 = .ok (.iload_n 1, 1) := by decide +kernel
theorem dX11_find_31 : decode cX11_find 31 = .ok (.istore_n 2, 1) := by decide +kernel
theorem dX11_find_32 : decode cX11_find 32 = .ok (.iload_n 2, 1) := by decide +kernel
theorem dX11_find_33 : decode cX11_find 33 = .ok (.aload_n 0, 1) := by decide +kernel
theorem dX11_find_34 : decode cX11_find 34 = .ok (.invokevirtual 218, 3) := by decide +kernel
theorem dX11_find_37 : decode cX11_find 37 = .ok (.if_icmp .ge 19, 3) := by decide +kernel
theorem dX11_find_40 : decode cX11_find 40 = .ok (.aload_n 0, 1) := by decide +kernel
theorem dX11_find_41 : decode cX11_find 41 = .ok (.iload_n 2, 1) := by decide +kernel
theorem dX11_find_42 : decode cX11_find 42 = .ok (.invokevirtual 226, 3) := by decide +kernel
theorem dX11_find_45 : decode cX11_find 45 = .ok (.ifCond .eq 5, 3) := by decide +kernel
theorem dX11_find_48 : decode cX11_find 48 = .ok (.iload_n 2, 1) := by decide +kernel
theorem dX11_find_49 : decode cX11_find 49 = .ok (.ireturn, 1) := by decide +kernel
theorem dX11_find_50 : decode cX11_find 50 = .ok (.iinc 2 1, 3) := by decide +kernel
theorem dX11_find_53 : decode cX11_find 53 = .ok (.goto (-21), 3) := by decide +kernel
theorem dX11_find_56 : decode cX11_find 56 = .ok (.sipush (-1009), 3) := by decide +kernel
theorem dX11_find_59 : decode cX11_find 59 = .ok (.ireturn, 1) := by decide +kernel
theorem vc_X11_find_0 {G : zG} {d : Nat} {Q : Option zV → zHp → Prop} (p1 : Int) (h : zHp) (hS : zSh h) (hd : 3 ≤ d) (I_32 : Int → Int → zHp → Prop) (hI_32 : ∀ (y1 : Int) (y2 : Int) (h' : zHp), I_32 y1 y2 h' → wpN G d M_X11_find 32 [(0, vR 343), (1, vI y1), (2, vI y2)] [] h' Q) 
    (hv : (wpN G (d - 1) M_X11_in 0 (zar 0 [vL p1, vL 0, vL 200]) [] h (qI (fun z1 h2 => zSh h2 ∧ ((z1 ≠ 0 → (wpN G (d - 1) M_X11_patternFault 0 (zar 0 [vR 343]) [] h2 (qI (fun z6 h7 => zSh h7 ∧ ((z6 = (-1009) → (zSh h7 → I_32 p1 p1 h7)) ∧ (z6 ≠ (-1009) → Q (some (vI (-1002))) h7)))))) ∧ (z1 = 0 → Q (some (vI (-1001))) h2)))))) : wpN G d M_X11_find 0 [(0, vR 343), (1, vI p1)] [] h Q := by
  refine wq_iload_n 1 rfl rfl dX11_find_0 ?_
  refine wq_i2l dX11_find_1 ?_
  refine wq_lconst (z := 0) (zlitL rfl) rfl dX11_find_2 ?_
  refine wq_ldc2_w (z := 200) (zlitL rfl) kc_X11_221 dX11_find_3 ?_
  refine wN_S (As := [vL p1, vL 0, vL 200]) md_X11_in ms_X11_in lk_X11_91 rfl rfl (Nat.le_of_ble_eq_true rfl) (Nat.le_of_ble_eq_true rfl) (d' := d - 1) (by omega) dX11_find_6 hv (fun v9 h2 q3 => ?_)
  obtain ⟨z1, rfl, hS4, q3⟩ := q3
  refine wq_st (st' := [vI z1]) rfl ?_
  refine wq_if_ne 16 rfl dX11_find_9 (fun c5 => ?_) (fun c5 => ?_)
  · refine wq_aload_n 0 rfl rfl dX11_find_16 ?_
    refine wN_V (As := []) vm_X11_patternFault lk_X11_223 tT_343 rfl rfl (Nat.le_of_ble_eq_true rfl) (Nat.le_of_ble_eq_true rfl) (d' := d - 1) (by omega) dX11_find_17 (q3.1 c5) (fun v9 h7 q8 => ?_)
    obtain ⟨z6, rfl, hS9, q8⟩ := q8
    refine wq_st (st' := [vI z6]) rfl ?_
    refine wq_sipush (z := -1009) (zlit rfl) rfl dX11_find_20 ?_
    refine wq_icmp_eq 30 rfl dX11_find_23 (fun c10 => ?_) (fun c10 => ?_)
    · refine wq_iload_n 1 rfl rfl dX11_find_30 ?_
      refine wq_istore_n (ls' := [(0, vR 343), (1, vI p1), (2, vI p1)]) rfl (by decide) rfl dX11_find_31 ?_
      exact wq_pick [0, 1, 2] rfl (hI_32 p1 p1 h7 ((q8.1 c10) hS9))
    · refine wq_sipush (z := -1002) (zlit rfl) rfl dX11_find_26 ?_
      exact wp_iret rfl dX11_find_29 (q8.2 c10)
  · refine wq_sipush (z := -1001) (zlit rfl) rfl dX11_find_12 ?_
    exact wp_iret rfl dX11_find_15 (q3.2 c5)
theorem vc_X11_find_32 {G : zG} {d : Nat} {Q : Option zV → zHp → Prop} (y1 : Int) (y2 : Int) (h : zHp) (hS : zSh h) (hd : 3 ≤ d) (I_32 : Int → Int → zHp → Prop) (hI_32 : ∀ (y1 : Int) (y2 : Int) (h' : zHp), I_32 y1 y2 h' → wpN G d M_X11_find 32 [(0, vR 343), (1, vI y1), (2, vI y2)] [] h' Q) 
    (hv : (wpN G (d - 1) M_X11_size 0 (zar 0 [vR 343]) [] h (qI (fun z1 h2 => zSh h2 ∧ ((z1 ≤ y2 → Q (some (vI (-1009))) h2) ∧ (y2 < z1 → (wpN G (d - 1) M_X11_matchesAt 0 (zar 0 [vR 343, vI y2]) [] h2 (qI (fun z6 h7 => zSh h7 ∧ ((z6 = 0 → ((-2147483648 ≤ y2 + 1 ∧ y2 + 1 ≤ 2147483647) ∧ ∀ x11 : Int, x11 = y2 + 1 → (zSh h7 → I_32 y1 x11 h7))) ∧ (z6 ≠ 0 → Q (some (vI y2)) h7))))))))))) : wpN G d M_X11_find 32 [(0, vR 343), (1, vI y1), (2, vI y2)] [] h Q := by
  refine wq_iload_n 2 rfl rfl dX11_find_32 ?_
  refine wq_aload_n 0 rfl rfl dX11_find_33 ?_
  refine wN_V (As := []) vm_X11_size lk_X11_218 tT_343 rfl rfl (Nat.le_of_ble_eq_true rfl) (Nat.le_of_ble_eq_true rfl) (d' := d - 1) (by omega) dX11_find_34 hv (fun v9 h2 q3 => ?_)
  obtain ⟨z1, rfl, hS4, q3⟩ := q3
  refine wq_st (st' := [vI z1, vI y2]) rfl ?_
  refine wq_icmp_ge 56 rfl dX11_find_37 (fun c5 => ?_) (fun c5 => ?_)
  · refine wq_sipush (z := -1009) (zlit rfl) rfl dX11_find_56 ?_
    exact wp_iret rfl dX11_find_59 (q3.1 c5)
  · refine wq_aload_n 0 rfl rfl dX11_find_40 ?_
    refine wq_iload_n 2 rfl rfl dX11_find_41 ?_
    refine wN_V (As := [vI y2]) vm_X11_matchesAt lk_X11_226 tT_343 rfl rfl (Nat.le_of_ble_eq_true rfl) (Nat.le_of_ble_eq_true rfl) (d' := d - 1) (by omega) dX11_find_42 (q3.2 c5) (fun v9 h7 q8 => ?_)
    obtain ⟨z6, rfl, hS9, q8⟩ := q8
    refine wq_st (st' := [vI z6]) rfl ?_
    refine wq_if_eq 50 rfl dX11_find_45 (fun c10 => ?_) (fun c10 => ?_)
    · refine z_nm (y2 + 1) (fun x11 e12 => ?_)
      refine wq_iinc (y := x11) (ls' := [(0, vR 343), (1, vI y1), (2, vI x11)]) 2 rfl e12.symm (by rw [e12]; exact (q8.1 c10).1) (by decide) rfl dX11_find_50 ?_
      refine wq_goto 32 rfl dX11_find_53 ?_
      exact wq_pick [0, 1, 2] rfl (hI_32 y1 x11 h7 (((q8.1 c10).2 x11 e12) hS9))
    · refine wq_iload_n 2 rfl rfl dX11_find_48 ?_
      exact wp_iret rfl dX11_find_49 (q8.2 c10)
theorem dX11_matches_0 : decode cX11_matches 0 = .ok (.aload_n 0, 1) := by decide +kernel
theorem dX11_matches_1 : decode cX11_matches 1 = .ok (.invokevirtual 223, 3) := by decide +kernel
theorem dX11_matches_4 : decode cX11_matches 4 = .ok (.sipush (-1009), 3) := by decide +kernel
theorem dX11_matches_7 : decode cX11_matches 7 = .ok (.if_icmp .eq 7, 3) := by decide +kernel
theorem dX11_matches_10 : decode cX11_matches 10 = .ok (.sipush (-1002), 3) := by decide +kernel
theorem dX11_matches_13 : decode cX11_matches 13 = .ok (.ireturn, 1) := by decide +kernel
theorem dX11_matches_14 : decode cX11_matches 14 = .ok (.iconst 0, 1) := by decide +kernel
theorem dX11_matches_15 : decode cX11_matches 15 = .ok (.istore_n 1, 1) := by decide +kernel
theorem dX11_matches_16 : decode cX11_matches 16 = .ok (.iconst 0, 1) := by decide +kernel
theorem dX11_matches_17 : decode cX11_matches 17 = .ok (.istore_n 2, 1) := by decide +kernel
theorem dX11_matches_18 : decode cX11_matches 18 = .ok (.iload_n 2, 1) := by decide +kernel
theorem dX11_matches_19 : decode cX11_matches 19 = .ok (.aload_n 0, 1) := by decide +kernel
theorem dX11_matches_20 : decode cX11_matches 20 = .ok (.invokevirtual 218, 3) := by decide +kernel
theorem dX11_matches_23 : decode cX11_matches 23 = .ok (.if_icmp .ge 25, 3) := by decide +kernel
theorem dX11_matches_26 : decode cX11_matches 26 = .ok (.iload_n 1, 1) := by decide +kernel
theorem dX11_matches_27 : decode cX11_matches 27 = .ok (.aload_n 0, 1) := by decide +kernel
theorem dX11_matches_28 : decode cX11_matches 28 = .ok (.iload_n 2, 1) := by decide +kernel
theorem dX11_matches_29 : decode cX11_matches 29 = .ok (.invokevirtual 226, 3) := by decide +kernel
theorem dX11_matches_32 : decode cX11_matches 32 = .ok (.ifCond .eq 7, 3) := by decide +kernel
theorem dX11_matches_35 : decode cX11_matches 35 = .ok (.iconst 1, 1) := by decide +kernel
theorem dX11_matches_36 : decode cX11_matches 36 = .ok (.goto 4, 3) := by decide +kernel
theorem dX11_matches_39 : decode cX11_matches 39 = .ok (.iconst 0, 1) := by decide +kernel
theorem dX11_matches_40 : decode cX11_matches 40 = .ok (.iadd, 1) := by decide +kernel
theorem dX11_matches_41 : decode cX11_matches 41 = .ok (.istore_n 1, 1) := by decide +kernel
theorem dX11_matches_42 : decode cX11_matches 42 = .ok (.iinc 2 1, 3) := by decide +kernel
theorem dX11_matches_45 : decode cX11_matches 45 = .ok (.goto (-27), 3) := by decide +kernel
theorem dX11_matches_48 : decode cX11_matches 48 = .ok (.iload_n 1, 1) := by decide +kernel
theorem dX11_matches_49 : decode cX11_matches 49 = .ok (.ireturn, 1) := by decide +kernel
theorem vc_X11_matches_0 {G : zG} {d : Nat} {Q : Option zV → zHp → Prop}  (h : zHp) (hS : zSh h) (hd : 3 ≤ d) (I_18 : Int → Int → zHp → Prop) (hI_18 : ∀ (y1 : Int) (y2 : Int) (h' : zHp), I_18 y1 y2 h' → wpN G d M_X11_matches 18 [(0, vR 343), (1, vI y1), (2, vI y2)] [] h' Q) 
    (hv : (wpN G (d - 1) M_X11_patternFault 0 (zar 0 [vR 343]) [] h (qI (fun z1 h2 => zSh h2 ∧ ((z1 = (-1009) → (zSh h2 → I_18 0 0 h2)) ∧ (z1 ≠ (-1009) → Q (some (vI (-1002))) h2)))))) : wpN G d M_X11_matches 0 [(0, vR 343)] [] h Q := by
  refine wq_aload_n 0 rfl rfl dX11_matches_0 ?_
  refine wN_V (As := []) vm_X11_patternFault lk_X11_223 tT_343 rfl rfl (Nat.le_of_ble_eq_true rfl) (Nat.le_of_ble_eq_true rfl) (d' := d - 1) (by omega) dX11_matches_1 hv (fun v9 h2 q3 => ?_)
  obtain ⟨z1, rfl, hS4, q3⟩ := q3
  refine wq_st (st' := [vI z1]) rfl ?_
  refine wq_sipush (z := -1009) (zlit rfl) rfl dX11_matches_4 ?_
  refine wq_icmp_eq 14 rfl dX11_matches_7 (fun c5 => ?_) (fun c5 => ?_)
  · refine wq_iconst (z := 0) (zlit rfl) dX11_matches_14 ?_
    refine wq_istore_n (ls' := [(0, vR 343), (1, vI 0)]) rfl (by decide) rfl dX11_matches_15 ?_
    refine wq_iconst (z := 0) (zlit rfl) dX11_matches_16 ?_
    refine wq_istore_n (ls' := [(0, vR 343), (1, vI 0), (2, vI 0)]) rfl (by decide) rfl dX11_matches_17 ?_
    exact wq_pick [0, 1, 2] rfl (hI_18 0 0 h2 ((q3.1 c5) hS4))
  · refine wq_sipush (z := -1002) (zlit rfl) rfl dX11_matches_10 ?_
    exact wp_iret rfl dX11_matches_13 (q3.2 c5)
theorem vc_X11_matches_18 {G : zG} {d : Nat} {Q : Option zV → zHp → Prop} (y1 : Int) (y2 : Int) (h : zHp) (hS : zSh h) (hd : 3 ≤ d) (I_18 : Int → Int → zHp → Prop) (hI_18 : ∀ (y1 : Int) (y2 : Int) (h' : zHp), I_18 y1 y2 h' → wpN G d M_X11_matches 18 [(0, vR 343), (1, vI y1), (2, vI y2)] [] h' Q) 
    (hv : (wpN G (d - 1) M_X11_size 0 (zar 0 [vR 343]) [] h (qI (fun z1 h2 => zSh h2 ∧ ((z1 ≤ y2 → Q (some (vI y1)) h2) ∧ (y2 < z1 → (wpN G (d - 1) M_X11_matchesAt 0 (zar 0 [vR 343, vI y2]) [] h2 (qI (fun z6 h7 => zSh h7 ∧ ((z6 = 0 → ((-2147483648 ≤ y1 + 0 ∧ y1 + 0 ≤ 2147483647) ∧ (∀ x11 : Int, x11 = (y1 + 0) → ((-2147483648 ≤ y2 + 1 ∧ y2 + 1 ≤ 2147483647) ∧ ∀ x13 : Int, x13 = y2 + 1 → (zSh h7 → I_18 x11 x13 h7))))) ∧ (z6 ≠ 0 → ((-2147483648 ≤ y1 + 1 ∧ y1 + 1 ≤ 2147483647) ∧ (∀ x15 : Int, x15 = (y1 + 1) → ((-2147483648 ≤ y2 + 1 ∧ y2 + 1 ≤ 2147483647) ∧ ∀ x17 : Int, x17 = y2 + 1 → (zSh h7 → I_18 x15 x17 h7))))))))))))))) : wpN G d M_X11_matches 18 [(0, vR 343), (1, vI y1), (2, vI y2)] [] h Q := by
  refine wq_iload_n 2 rfl rfl dX11_matches_18 ?_
  refine wq_aload_n 0 rfl rfl dX11_matches_19 ?_
  refine wN_V (As := []) vm_X11_size lk_X11_218 tT_343 rfl rfl (Nat.le_of_ble_eq_true rfl) (Nat.le_of_ble_eq_true rfl) (d' := d - 1) (by omega) dX11_matches_20 hv (fun v9 h2 q3 => ?_)
  obtain ⟨z1, rfl, hS4, q3⟩ := q3
  refine wq_st (st' := [vI z1, vI y2]) rfl ?_
  refine wq_icmp_ge 48 rfl dX11_matches_23 (fun c5 => ?_) (fun c5 => ?_)
  · refine wq_iload_n 1 rfl rfl dX11_matches_48 ?_
    exact wp_iret rfl dX11_matches_49 (q3.1 c5)
  · refine wq_iload_n 1 rfl rfl dX11_matches_26 ?_
    refine wq_aload_n 0 rfl rfl dX11_matches_27 ?_
    refine wq_iload_n 2 rfl rfl dX11_matches_28 ?_
    refine wN_V (As := [vI y2]) vm_X11_matchesAt lk_X11_226 tT_343 rfl rfl (Nat.le_of_ble_eq_true rfl) (Nat.le_of_ble_eq_true rfl) (d' := d - 1) (by omega) dX11_matches_29 (q3.2 c5) (fun v9 h7 q8 => ?_)
    obtain ⟨z6, rfl, hS9, q8⟩ := q8
    refine wq_st (st' := [vI z6, vI y1]) rfl ?_
    refine wq_if_eq 39 rfl dX11_matches_32 (fun c10 => ?_) (fun c10 => ?_)
    · refine wq_iconst (z := 0) (zlit rfl) dX11_matches_39 ?_
      refine wq_iadd (q8.1 c10).1 dX11_matches_40 ?_
      refine wq_topI (fun x11 e12 => ?_)
      refine wq_istore_n (ls' := [(0, vR 343), (1, vI x11), (2, vI y2)]) rfl (by decide) rfl dX11_matches_41 ?_
      refine z_nm (y2 + 1) (fun x13 e14 => ?_)
      refine wq_iinc (y := x13) (ls' := [(0, vR 343), (1, vI x11), (2, vI x13)]) 2 rfl e14.symm (by rw [e14]; exact ((q8.1 c10).2 x11 e12).1) (by decide) rfl dX11_matches_42 ?_
      refine wq_goto 18 rfl dX11_matches_45 ?_
      exact wq_pick [0, 1, 2] rfl (hI_18 x11 x13 h7 ((((q8.1 c10).2 x11 e12).2 x13 e14) hS9))
    · refine wq_iconst (z := 1) (zlit rfl) dX11_matches_35 ?_
      refine wq_goto 40 rfl dX11_matches_36 ?_
      refine wq_iadd (q8.2 c10).1 dX11_matches_40 ?_
      refine wq_topI (fun x15 e16 => ?_)
      refine wq_istore_n (ls' := [(0, vR 343), (1, vI x15), (2, vI y2)]) rfl (by decide) rfl dX11_matches_41 ?_
      refine z_nm (y2 + 1) (fun x17 e18 => ?_)
      refine wq_iinc (y := x17) (ls' := [(0, vR 343), (1, vI x15), (2, vI x17)]) 2 rfl e18.symm (by rw [e18]; exact ((q8.2 c10).2 x15 e16).1) (by decide) rfl dX11_matches_42 ?_
      refine wq_goto 18 rfl dX11_matches_45 ?_
      exact wq_pick [0, 1, 2] rfl (hI_18 x15 x17 h7 ((((q8.2 c10).2 x15 e16).2 x17 e18) hS9))
theorem dX11_read_0 : decode cX11_read 0 = .ok (.lconst 0, 1) := by decide +kernel
theorem dX11_read_1 : decode cX11_read 1 = .ok (.lstore 5, 2) := by decide +kernel
theorem dX11_read_3 : decode cX11_read 3 = .ok (.iconst 0, 1) := by decide +kernel
theorem dX11_read_4 : decode cX11_read 4 = .ok (.istore 7, 2) := by decide +kernel
theorem dX11_read_6 : decode cX11_read 6 = .ok (.iload 7, 2) := by decide +kernel
theorem dX11_read_8 : decode cX11_read 8 = .ok (.iload_n 2, 1) := by decide +kernel
theorem dX11_read_9 : decode cX11_read 9 = .ok (.if_icmp .ge 46, 3) := by decide +kernel
theorem dX11_read_12 : decode cX11_read 12 = .ok (.aload_n 0, 1) := by decide +kernel
theorem dX11_read_13 : decode cX11_read 13 = .ok (.getfield 7, 3) := by decide +kernel
theorem dX11_read_16 : decode cX11_read 16 = .ok (.iload_n 3, 1) := by decide +kernel
theorem dX11_read_17 : decode cX11_read 17 = .ok (.ifCond .eq 14, 3) := by decide +kernel
theorem dX11_read_20 : decode cX11_read 20 = .ok (.iload_n 1, 1) := by decide +kernel
theorem dX11_read_21 : decode cX11_read 21 = .ok (.iload_n 2, 1) := by decide +kernel
theorem dX11_read_22 : decode cX11_read 22 = .ok (.iadd, 1) := by decide +kernel
theorem dX11_read_23 : decode cX11_read 23 = .ok (.iconst 1, 1) := by decide +kernel
theorem dX11_read_24 : decode cX11_read 24 = .ok (.isub, 1) := by decide +kernel
theorem dX11_read_25 : decode cX11_read 25 = .ok (.iload 7, 2) := by decide +kernel
theorem dX11_read_27 : decode cX11_read 27 = .ok (.isub, 1) := by decide +kernel
theorem dX11_read_28 : decode cX11_read 28 = .ok (.goto 7, 3) := by decide +kernel
theorem dX11_read_31 : decode cX11_read 31 = .ok (.iload_n 1, 1) := by decide +kernel
theorem dX11_read_32 : decode cX11_read 32 = .ok (.iload 7, 2) := by decide +kernel
theorem dX11_read_34 : decode cX11_read 34 = .ok (.iadd, 1) := by decide +kernel
theorem dX11_read_35 : decode cX11_read 35 = .ok (.iaload, 1) := by decide +kernel
theorem dX11_read_36 : decode cX11_read 36 = .ok (.istore 8, 2) := by decide +kernel
theorem dX11_read_38 : decode cX11_read 38 = .ok (.lload 5, 2) := by decide +kernel
theorem dX11_read_40 : decode cX11_read 40 = .ok (.bipush 8, 2) := by decide +kernel
theorem dX11_read_42 : decode cX11_read 42 = .ok (.lshl, 1) := by decide +kernel
theorem dX11_read_43 : decode cX11_read 43 = .ok (.iload 8, 2) := by decide +kernel
theorem dX11_read_45 : decode cX11_read 45 = .ok (.i2l, 1) := by decide +kernel
theorem dX11_read_46 : decode cX11_read 46 = .ok (.lor, 1) := by decide +kernel
theorem dX11_read_47 : decode cX11_read 47 = .ok (.lstore 5, 2) := by decide +kernel
theorem dX11_read_49 : decode cX11_read 49 = .ok (.iinc 7 1, 3) := by decide +kernel
theorem dX11_read_52 : decode cX11_read 52 = .ok (.goto (-46), 3) := by decide +kernel
theorem dX11_read_55 : decode cX11_read 55 = .ok (.lconst 1, 1) := by decide +kernel
theorem dX11_read_56 : decode cX11_read 56 = .ok (.bipush 8, 2) := by decide +kernel
theorem dX11_read_58 : decode cX11_read 58 = .ok (.iload_n 2, 1) := by decide +kernel
theorem dX11_read_59 : decode cX11_read 59 = .ok (.imul, 1) := by decide +kernel
theorem dX11_read_60 : decode cX11_read 60 = .ok (.iconst 1, 1) := by decide +kernel
theorem dX11_read_61 : decode cX11_read 61 = .ok (.isub, 1) := by decide +kernel
theorem dX11_read_62 : decode cX11_read 62 = .ok (.lshl, 1) := by decide +kernel
theorem dX11_read_63 : decode cX11_read 63 = .ok (.lstore 7, 2) := by decide +kernel
theorem dX11_read_65 : decode cX11_read 65 = .ok (.iload 4, 2) := by decide +kernel
theorem dX11_read_67 : decode cX11_read 67 = .ok (.ifCond .eq 23, 3) := by decide +kernel
theorem dX11_read_70 : decode cX11_read 70 = .ok (.lload 5, 2) := by decide +kernel
theorem dX11_read_72 : decode cX11_read 72 = .ok (.lload 7, 2) := by decide +kernel
theorem dX11_read_74 : decode cX11_read 74 = .ok (.lcmp, 1) := by decide +kernel
theorem dX11_read_75 : decode cX11_read 75 = .ok (.ifCond .lt 15, 3) := by decide +kernel
theorem dX11_read_78 : decode cX11_read 78 = .ok (.lload 5, 2) := by decide +kernel
theorem dX11_read_80 : decode cX11_read 80 = .ok (.ldc2_w 229, 3) := by decide +kernel
theorem dX11_read_83 : decode cX11_read 83 = .ok (.lload 7, 2) := by decide +kernel
theorem dX11_read_85 : decode cX11_read 85 = .ok (.lmul, 1) := by decide +kernel
theorem dX11_read_86 : decode cX11_read 86 = .ok (.lsub, 1) := by decide +kernel
theorem dX11_read_87 : decode cX11_read 87 = .ok (.goto 5, 3) := by decide +kernel
theorem dX11_read_90 : decode cX11_read 90 = .ok (.lload 5, 2) := by decide +kernel
theorem dX11_read_92 : decode cX11_read 92 = .ok (.lreturn, 1) := by decide +kernel
theorem vc_X11_read_0 {G : zG} {d : Nat} {Q : Option zV → zHp → Prop} (p1 : Int) (p2 : Int) (p3 : Int) (p4 : Int) (h : zHp) (hS : zSh h) (hd : 0 ≤ d) (I_6 : Int → Int → Int → Int → Int → Int → zHp → Prop) (hI_6 : ∀ (y1 : Int) (y2 : Int) (y3 : Int) (y4 : Int) (y5 : Int) (y7 : Int) (h' : zHp), I_6 y1 y2 y3 y4 y5 y7 h' → wpN G d M_X11_read 6 [(0, vR 343), (1, vI y1), (2, vI y2), (3, vI y3), (4, vI y4), (5, vL y5), (7, vI y7)] [] h' Q) 
    (hv : (zSh h → I_6 p1 p2 p3 p4 0 0 h)) : wpN G d M_X11_read 0 [(0, vR 343), (1, vI p1), (2, vI p2), (3, vI p3), (4, vI p4)] [] h Q := by
  refine wq_lconst (z := 0) (zlitL rfl) rfl dX11_read_0 ?_
  refine wq_lstore (ls' := [(0, vR 343), (1, vI p1), (2, vI p2), (3, vI p3), (4, vI p4), (5, vL 0)]) (by decide) rfl dX11_read_1 ?_
  refine wq_iconst (z := 0) (zlit rfl) dX11_read_3 ?_
  refine wq_istore (ls' := [(0, vR 343), (1, vI p1), (2, vI p2), (3, vI p3), (4, vI p4), (5, vL 0), (7, vI 0)]) (by decide) rfl dX11_read_4 ?_
  exact wq_pick [0, 1, 2, 3, 4, 5, 6] rfl (hI_6 p1 p2 p3 p4 0 0 h (hv hS))
theorem vc_X11_read_6 {G : zG} {d : Nat} {Q : Option zV → zHp → Prop} (y1 : Int) (y2 : Int) (y3 : Int) (y4 : Int) (y5 : Int) (y7 : Int) (h : zHp) (hS : zSh h) (hd : 0 ≤ d) (I_6 : Int → Int → Int → Int → Int → Int → zHp → Prop) (hI_6 : ∀ (y1 : Int) (y2 : Int) (y3 : Int) (y4 : Int) (y5 : Int) (y7 : Int) (h' : zHp), I_6 y1 y2 y3 y4 y5 y7 h' → wpN G d M_X11_read 6 [(0, vR 343), (1, vI y1), (2, vI y2), (3, vI y3), (4, vI y4), (5, vL y5), (7, vI y7)] [] h' Q) 
    (hv : ((y2 ≤ y7 → ((-2147483648 ≤ 8 * y2 ∧ 8 * y2 ≤ 2147483647) ∧ ((-2147483648 ≤ (8 * y2) - 1 ∧ (8 * y2) - 1 ≤ 2147483647) ∧ (∀ x2 : Int, x2 = (zshl 1 ((8 * y2) - 1)) → ((y4 = 0 → Q (some (vL y5)) h) ∧ (y4 ≠ 0 → ((y5 < x2 → Q (some (vL y5)) h) ∧ (x2 ≤ y5 → ((-9223372036854775808 ≤ 2 * x2 ∧ 2 * x2 ≤ 9223372036854775807) ∧ ((-9223372036854775808 ≤ y5 - (2 * x2) ∧ y5 - (2 * x2) ≤ 9223372036854775807) ∧ Q (some (vL (y5 - (2 * x2)))) h)))))))))) ∧ (y7 < y2 → ((y3 = 0 → ((-2147483648 ≤ y1 + y7 ∧ y1 + y7 ≤ 2147483647) ∧ (((0 : Int) ≤ (y1 + y7) ∧ (y1 + y7) < ((213 : Nat) : Int)) ∧ (∀ x7 : Int, x7 = (gI h 344 (y1 + y7).toNat) → (∀ x9 : Int, x9 = (zorL (zshl y5 8) x7) → ((-2147483648 ≤ y7 + 1 ∧ y7 + 1 ≤ 2147483647) ∧ ∀ x11 : Int, x11 = y7 + 1 → (zSh h → I_6 y1 y2 y3 y4 x9 x11 h))))))) ∧ (y3 ≠ 0 → ((-2147483648 ≤ y1 + y2 ∧ y1 + y2 ≤ 2147483647) ∧ ((-2147483648 ≤ (y1 + y2) - 1 ∧ (y1 + y2) - 1 ≤ 2147483647) ∧ ((-2147483648 ≤ ((y1 + y2) - 1) - y7 ∧ ((y1 + y2) - 1) - y7 ≤ 2147483647) ∧ (((0 : Int) ≤ (((y1 + y2) - 1) - y7) ∧ (((y1 + y2) - 1) - y7) < ((213 : Nat) : Int)) ∧ (∀ x13 : Int, x13 = (gI h 344 (((y1 + y2) - 1) - y7).toNat) → (∀ x15 : Int, x15 = (zorL (zshl y5 8) x13) → ((-2147483648 ≤ y7 + 1 ∧ y7 + 1 ≤ 2147483647) ∧ ∀ x17 : Int, x17 = y7 + 1 → (zSh h → I_6 y1 y2 y3 y4 x15 x17 h))))))))))))) : wpN G d M_X11_read 6 [(0, vR 343), (1, vI y1), (2, vI y2), (3, vI y3), (4, vI y4), (5, vL y5), (7, vI y7)] [] h Q := by
  refine wq_iload 6 rfl dX11_read_6 ?_
  refine wq_iload_n 2 rfl rfl dX11_read_8 ?_
  refine wq_icmp_ge 55 rfl dX11_read_9 (fun c1 => ?_) (fun c1 => ?_)
  · refine wq_lconst (z := 1) (zlitL rfl) rfl dX11_read_55 ?_
    refine wq_bipush (z := 8) (zlit rfl) rfl dX11_read_56 ?_
    refine wq_iload_n 2 rfl rfl dX11_read_58 ?_
    refine wq_imul (hv.1 c1).1 dX11_read_59 ?_
    refine wq_iconst (z := 1) (zlit rfl) dX11_read_60 ?_
    refine wq_isub (hv.1 c1).2.1 dX11_read_61 ?_
    refine wq_lshl dX11_read_62 ?_
    refine wq_topL (fun x2 e3 => ?_)
    refine wq_lstore (ls' := [(0, vR 343), (1, vI y1), (2, vI y2), (3, vI y3), (4, vI y4), (5, vL y5), (7, vL x2)]) (by decide) rfl dX11_read_63 ?_
    refine wq_iload 4 rfl dX11_read_65 ?_
    refine wq_if_eq 90 rfl dX11_read_67 (fun c4 => ?_) (fun c4 => ?_)
    · refine wq_lload 5 rfl dX11_read_90 ?_
      exact wp_lret rfl dX11_read_92 (((hv.1 c1).2.2 x2 e3).1 c4)
    · refine wq_lload 5 rfl dX11_read_70 ?_
      refine wq_lload 6 rfl dX11_read_72 ?_
      refine wq_lcmp_lt 90 rfl dX11_read_74 dX11_read_75 (fun c5 => ?_) (fun c5 => ?_)
      · refine wq_lload 5 rfl dX11_read_90 ?_
        exact wp_lret rfl dX11_read_92 ((((hv.1 c1).2.2 x2 e3).2 c4).1 c5)
      · refine wq_lload 5 rfl dX11_read_78 ?_
        refine wq_ldc2_w (z := 2) (zlitL rfl) kc_X11_229 dX11_read_80 ?_
        refine wq_lload 6 rfl dX11_read_83 ?_
        refine wq_lmul ((((hv.1 c1).2.2 x2 e3).2 c4).2 c5).1 dX11_read_85 ?_
        refine wq_lsub ((((hv.1 c1).2.2 x2 e3).2 c4).2 c5).2.1 dX11_read_86 ?_
        refine wq_goto 92 rfl dX11_read_87 ?_
        exact wp_lret rfl dX11_read_92 ((((hv.1 c1).2.2 x2 e3).2 c4).2 c5).2.2
  · refine wq_aload_n 0 rfl rfl dX11_read_12 ?_
    refine wq_getR fk_X11_7 tT_343 (fun _ _ _ => rfl) (sh_11_0 hS) (by decide) dX11_read_13 ?_
    refine wq_iload_n 3 rfl rfl dX11_read_16 ?_
    refine wq_if_eq 31 rfl dX11_read_17 (fun c6 => ?_) (fun c6 => ?_)
    · refine wq_iload_n 1 rfl rfl dX11_read_31 ?_
      refine wq_iload 6 rfl dX11_read_32 ?_
      refine wq_iadd ((hv.2 c1).1 c6).1 dX11_read_34 ?_
      refine wq_iald tT_344 ((hv.2 c1).1 c6).2.1.1 ((hv.2 c1).1 c6).2.1.2 dX11_read_35 ?_
      refine wq_topI (fun x7 e8 => ?_)
      refine wq_istore (ls' := [(0, vR 343), (1, vI y1), (2, vI y2), (3, vI y3), (4, vI y4), (5, vL y5), (7, vI y7), (8, vI x7)]) (by decide) rfl dX11_read_36 ?_
      refine wq_lload 5 rfl dX11_read_38 ?_
      refine wq_bipush (z := 8) (zlit rfl) rfl dX11_read_40 ?_
      refine wq_lshl dX11_read_42 ?_
      refine wq_iload 7 rfl dX11_read_43 ?_
      refine wq_i2l dX11_read_45 ?_
      refine wq_lor dX11_read_46 ?_
      refine wq_topL (fun x9 e10 => ?_)
      refine wq_lstore (ls' := [(0, vR 343), (1, vI y1), (2, vI y2), (3, vI y3), (4, vI y4), (5, vL x9), (7, vI y7), (8, vI x7)]) (by decide) rfl dX11_read_47 ?_
      refine z_nm (y7 + 1) (fun x11 e12 => ?_)
      refine wq_iinc (y := x11) (ls' := [(0, vR 343), (1, vI y1), (2, vI y2), (3, vI y3), (4, vI y4), (5, vL x9), (7, vI x11), (8, vI x7)]) 6 rfl e12.symm (by rw [e12]; exact ((((hv.2 c1).1 c6).2.2 x7 e8) x9 e10).1) (by decide) rfl dX11_read_49 ?_
      refine wq_goto 6 rfl dX11_read_52 ?_
      exact wq_pick [0, 1, 2, 3, 4, 5, 6] rfl (hI_6 y1 y2 y3 y4 x9 x11 h ((((((hv.2 c1).1 c6).2.2 x7 e8) x9 e10).2 x11 e12) hS))
    · refine wq_iload_n 1 rfl rfl dX11_read_20 ?_
      refine wq_iload_n 2 rfl rfl dX11_read_21 ?_
      refine wq_iadd ((hv.2 c1).2 c6).1 dX11_read_22 ?_
      refine wq_iconst (z := 1) (zlit rfl) dX11_read_23 ?_
      refine wq_isub ((hv.2 c1).2 c6).2.1 dX11_read_24 ?_
      refine wq_iload 6 rfl dX11_read_25 ?_
      refine wq_isub ((hv.2 c1).2 c6).2.2.1 dX11_read_27 ?_
      refine wq_goto 35 rfl dX11_read_28 ?_
      refine wq_iald tT_344 ((hv.2 c1).2 c6).2.2.2.1.1 ((hv.2 c1).2 c6).2.2.2.1.2 dX11_read_35 ?_
      refine wq_topI (fun x13 e14 => ?_)
      refine wq_istore (ls' := [(0, vR 343), (1, vI y1), (2, vI y2), (3, vI y3), (4, vI y4), (5, vL y5), (7, vI y7), (8, vI x13)]) (by decide) rfl dX11_read_36 ?_
      refine wq_lload 5 rfl dX11_read_38 ?_
      refine wq_bipush (z := 8) (zlit rfl) rfl dX11_read_40 ?_
      refine wq_lshl dX11_read_42 ?_
      refine wq_iload 7 rfl dX11_read_43 ?_
      refine wq_i2l dX11_read_45 ?_
      refine wq_lor dX11_read_46 ?_
      refine wq_topL (fun x15 e16 => ?_)
      refine wq_lstore (ls' := [(0, vR 343), (1, vI y1), (2, vI y2), (3, vI y3), (4, vI y4), (5, vL x15), (7, vI y7), (8, vI x13)]) (by decide) rfl dX11_read_47 ?_
      refine z_nm (y7 + 1) (fun x17 e18 => ?_)
      refine wq_iinc (y := x17) (ls' := [(0, vR 343), (1, vI y1), (2, vI y2), (3, vI y3), (4, vI y4), (5, vL x15), (7, vI x17), (8, vI x13)]) 6 rfl e18.symm (by rw [e18]; exact ((((hv.2 c1).2 c6).2.2.2.2 x13 e14) x15 e16).1) (by decide) rfl dX11_read_49 ?_
      refine wq_goto 6 rfl dX11_read_52 ?_
      exact wq_pick [0, 1, 2, 3, 4, 5, 6] rfl (hI_6 y1 y2 y3 y4 x15 x17 h ((((((hv.2 c1).2 c6).2.2.2.2 x13 e14) x15 e16).2 x17 e18) hS))
theorem dX11_valueOf_0 : decode cX11_valueOf 0 = .ok (.aload_n 0, 1) := by decide +kernel
theorem dX11_valueOf_1 : decode cX11_valueOf 1 = .ok (.aload_n 0, 1) := by decide +kernel
theorem dX11_valueOf_2 : decode cX11_valueOf 2 = .ok (.getfield 40, 3) := by decide +kernel
theorem dX11_valueOf_5 : decode cX11_valueOf 5 = .ok (.iload_n 1, 1) := by decide +kernel
theorem dX11_valueOf_6 : decode cX11_valueOf 6 = .ok (.iaload, 1) := by decide +kernel
theorem dX11_valueOf_7 : decode cX11_valueOf 7 = .ok (.aload_n 0, 1) := by decide +kernel
theorem dX11_valueOf_8 : decode cX11_valueOf 8 = .ok (.getfield 43, 3) := by decide +kernel
theorem dX11_valueOf_11 : decode cX11_valueOf 11 = .ok (.iload_n 1, 1) := by decide +kernel
theorem dX11_valueOf_12 : decode cX11_valueOf 12 = .ok (.iaload, 1) := by decide +kernel
theorem dX11_valueOf_13 : decode cX11_valueOf 13 = .ok (.aload_n 0, 1) := by decide +kernel
theorem dX11_valueOf_14 : decode cX11_valueOf 14 = .ok (.getfield 49, 3) := by decide +kernel
theorem dX11_valueOf_17 : decode cX11_valueOf 17 = .ok (.iload_n 1, 1) := by decide +kernel
theorem dX11_valueOf_18 : decode cX11_valueOf 18 = .ok (.iaload, 1) := by decide +kernel
theorem dX11_valueOf_19 : decode cX11_valueOf 19 = .ok (.iconst 1, 1) := by decide +kernel
theorem dX11_valueOf_20 : decode cX11_valueOf 20 = .ok (.if_icmp .ne 7, 3) := by decide +kernel
theorem dX11_valueOf_23 : decode cX11_valueOf 23 = .ok (.iconst 1, 1) := by decide +kernel
theorem dX11_valueOf_24 : decode cX11_valueOf 24 = .ok (.goto 4, 3) := by decide +kernel
theorem dX11_valueOf_27 : decode cX11_valueOf 27 = .ok (.iconst 0, 1) := by decide +kernel
theorem dX11_valueOf_28 : decode cX11_valueOf 28 = .ok (.aload_n 0, 1) := by decide +kernel
theorem dX11_valueOf_29 : decode cX11_valueOf 29 = .ok (.getfield 46, 3) := by decide +kernel
theorem dX11_valueOf_32 : decode cX11_valueOf 32 = .ok (.iload_n 1, 1) := by decide +kernel
theorem dX11_valueOf_33 : decode cX11_valueOf 33 = .ok (.iaload, 1) := by decide +kernel
theorem dX11_valueOf_34 : decode cX11_valueOf 34 = .ok (.iconst 1, 1) := by decide +kernel
theorem dX11_valueOf_35 : decode cX11_valueOf 35 = .ok (.if_icmp .ne 7, 3) := by decide +kernel
theorem dX11_valueOf_38 : decode cX11_valueOf 38 = .ok (.iconst 1, 1) := by decide +kernel
theorem dX11_valueOf_39 : decode cX11_valueOf 39 = .ok (.goto 4, 3) := by decide +kernel
theorem dX11_valueOf_42 : decode cX11_valueOf 42 = .ok (.iconst 0, 1) := by decide +kernel
theorem dX11_valueOf_43 : decode cX11_valueOf 43 = .ok (.invokevirtual 231, 3) := by decide +kernel
theorem dX11_valueOf_46 : decode cX11_valueOf 46 = .ok (.lreturn, 1) := by decide +kernel
theorem vc_X11_valueOf_0 {G : zG} {d : Nat} {Q : Option zV → zHp → Prop} (p1 : Int) (h : zHp) (hS : zSh h) (hd : 1 ≤ d)  
    (hv : (((0 : Int) ≤ p1 ∧ p1 < ((60 : Nat) : Int)) ∧ (((0 : Int) ≤ p1 ∧ p1 < ((60 : Nat) : Int)) ∧ (((0 : Int) ≤ p1 ∧ p1 < ((60 : Nat) : Int)) ∧ (((gI h 357 p1.toNat) ≠ 1 → (((0 : Int) ≤ p1 ∧ p1 < ((60 : Nat) : Int)) ∧ (((gI h 356 p1.toNat) ≠ 1 → (wpN G (d - 1) M_X11_read 0 (zar 0 [vR 343, vI (gI h 354 p1.toNat), vI (gI h 355 p1.toNat), vI 0, vI 0]) [] h (qL (fun z3 h4 => zSh h4 ∧ Q (some (vL z3)) h4)))) ∧ ((gI h 356 p1.toNat) = 1 → (wpN G (d - 1) M_X11_read 0 (zar 0 [vR 343, vI (gI h 354 p1.toNat), vI (gI h 355 p1.toNat), vI 0, vI 1]) [] h (qL (fun z7 h8 => zSh h8 ∧ Q (some (vL z7)) h8))))))) ∧ ((gI h 357 p1.toNat) = 1 → (((0 : Int) ≤ p1 ∧ p1 < ((60 : Nat) : Int)) ∧ (((gI h 356 p1.toNat) ≠ 1 → (wpN G (d - 1) M_X11_read 0 (zar 0 [vR 343, vI (gI h 354 p1.toNat), vI (gI h 355 p1.toNat), vI 1, vI 0]) [] h (qL (fun z12 h13 => zSh h13 ∧ Q (some (vL z12)) h13)))) ∧ ((gI h 356 p1.toNat) = 1 → (wpN G (d - 1) M_X11_read 0 (zar 0 [vR 343, vI (gI h 354 p1.toNat), vI (gI h 355 p1.toNat), vI 1, vI 1]) [] h (qL (fun z16 h17 => zSh h17 ∧ Q (some (vL z16)) h17)))))))))))) : wpN G d M_X11_valueOf 0 [(0, vR 343), (1, vI p1)] [] h Q := by
  refine wq_aload_n 0 rfl rfl dX11_valueOf_0 ?_
  refine wq_aload_n 0 rfl rfl dX11_valueOf_1 ?_
  refine wq_getR fk_X11_40 tT_343 (fun _ _ _ => rfl) (sh_11_23 hS) (by decide) dX11_valueOf_2 ?_
  refine wq_iload_n 1 rfl rfl dX11_valueOf_5 ?_
  refine wq_iald tT_354 hv.1.1 hv.1.2 dX11_valueOf_6 ?_
  refine wq_aload_n 0 rfl rfl dX11_valueOf_7 ?_
  refine wq_getR fk_X11_43 tT_343 (fun _ _ _ => rfl) (sh_11_24 hS) (by decide) dX11_valueOf_8 ?_
  refine wq_iload_n 1 rfl rfl dX11_valueOf_11 ?_
  refine wq_iald tT_355 hv.2.1.1 hv.2.1.2 dX11_valueOf_12 ?_
  refine wq_aload_n 0 rfl rfl dX11_valueOf_13 ?_
  refine wq_getR fk_X11_49 tT_343 (fun _ _ _ => rfl) (sh_11_26 hS) (by decide) dX11_valueOf_14 ?_
  refine wq_iload_n 1 rfl rfl dX11_valueOf_17 ?_
  refine wq_iald tT_357 hv.2.2.1.1 hv.2.2.1.2 dX11_valueOf_18 ?_
  refine wq_iconst (z := 1) (zlit rfl) dX11_valueOf_19 ?_
  refine wq_icmp_ne 27 rfl dX11_valueOf_20 (fun c1 => ?_) (fun c1 => ?_)
  · refine wq_iconst (z := 0) (zlit rfl) dX11_valueOf_27 ?_
    refine wq_aload_n 0 rfl rfl dX11_valueOf_28 ?_
    refine wq_getR fk_X11_46 tT_343 (fun _ _ _ => rfl) (sh_11_25 hS) (by decide) dX11_valueOf_29 ?_
    refine wq_iload_n 1 rfl rfl dX11_valueOf_32 ?_
    refine wq_iald tT_356 (hv.2.2.2.1 c1).1.1 (hv.2.2.2.1 c1).1.2 dX11_valueOf_33 ?_
    refine wq_iconst (z := 1) (zlit rfl) dX11_valueOf_34 ?_
    refine wq_icmp_ne 42 rfl dX11_valueOf_35 (fun c2 => ?_) (fun c2 => ?_)
    · refine wq_iconst (z := 0) (zlit rfl) dX11_valueOf_42 ?_
      refine wN_V (As := [vI (gI h 354 p1.toNat), vI (gI h 355 p1.toNat), vI 0, vI 0]) vm_X11_read lk_X11_231 tT_343 rfl rfl (Nat.le_of_ble_eq_true rfl) (Nat.le_of_ble_eq_true rfl) (d' := d - 1) (by omega) dX11_valueOf_43 ((hv.2.2.2.1 c1).2.1 c2) (fun v9 h4 q5 => ?_)
      obtain ⟨z3, rfl, hS6, q5⟩ := q5
      refine wq_st (st' := [vL z3]) rfl ?_
      exact wp_lret rfl dX11_valueOf_46 q5
    · refine wq_iconst (z := 1) (zlit rfl) dX11_valueOf_38 ?_
      refine wq_goto 43 rfl dX11_valueOf_39 ?_
      refine wN_V (As := [vI (gI h 354 p1.toNat), vI (gI h 355 p1.toNat), vI 0, vI 1]) vm_X11_read lk_X11_231 tT_343 rfl rfl (Nat.le_of_ble_eq_true rfl) (Nat.le_of_ble_eq_true rfl) (d' := d - 1) (by omega) dX11_valueOf_43 ((hv.2.2.2.1 c1).2.2 c2) (fun v9 h8 q9 => ?_)
      obtain ⟨z7, rfl, hS10, q9⟩ := q9
      refine wq_st (st' := [vL z7]) rfl ?_
      exact wp_lret rfl dX11_valueOf_46 q9
  · refine wq_iconst (z := 1) (zlit rfl) dX11_valueOf_23 ?_
    refine wq_goto 28 rfl dX11_valueOf_24 ?_
    refine wq_aload_n 0 rfl rfl dX11_valueOf_28 ?_
    refine wq_getR fk_X11_46 tT_343 (fun _ _ _ => rfl) (sh_11_25 hS) (by decide) dX11_valueOf_29 ?_
    refine wq_iload_n 1 rfl rfl dX11_valueOf_32 ?_
    refine wq_iald tT_356 (hv.2.2.2.2 c1).1.1 (hv.2.2.2.2 c1).1.2 dX11_valueOf_33 ?_
    refine wq_iconst (z := 1) (zlit rfl) dX11_valueOf_34 ?_
    refine wq_icmp_ne 42 rfl dX11_valueOf_35 (fun c11 => ?_) (fun c11 => ?_)
    · refine wq_iconst (z := 0) (zlit rfl) dX11_valueOf_42 ?_
      refine wN_V (As := [vI (gI h 354 p1.toNat), vI (gI h 355 p1.toNat), vI 1, vI 0]) vm_X11_read lk_X11_231 tT_343 rfl rfl (Nat.le_of_ble_eq_true rfl) (Nat.le_of_ble_eq_true rfl) (d' := d - 1) (by omega) dX11_valueOf_43 ((hv.2.2.2.2 c1).2.1 c11) (fun v9 h13 q14 => ?_)
      obtain ⟨z12, rfl, hS15, q14⟩ := q14
      refine wq_st (st' := [vL z12]) rfl ?_
      exact wp_lret rfl dX11_valueOf_46 q14
    · refine wq_iconst (z := 1) (zlit rfl) dX11_valueOf_38 ?_
      refine wq_goto 43 rfl dX11_valueOf_39 ?_
      refine wN_V (As := [vI (gI h 354 p1.toNat), vI (gI h 355 p1.toNat), vI 1, vI 1]) vm_X11_read lk_X11_231 tT_343 rfl rfl (Nat.le_of_ble_eq_true rfl) (Nat.le_of_ble_eq_true rfl) (d' := d - 1) (by omega) dX11_valueOf_43 ((hv.2.2.2.2 c1).2.2 c11) (fun v9 h17 q18 => ?_)
      obtain ⟨z16, rfl, hS19, q18⟩ := q18
      refine wq_st (st' := [vL z16]) rfl ?_
      exact wp_lret rfl dX11_valueOf_46 q18
