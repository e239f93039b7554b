theorem dX11_repair_0 : decode cX11_repair 0 = .ok (.aload_n 0, 1) := by decide +kernel
theorem dX11_repair_1 : decode cX11_repair 1 = .ok (.iload_n 1, 1) := by decide +kernel
theorem dX11_repair_2 : decode cX11_repair 2 = .ok (.iload_n 2, 1) := by decide +kernel
theorem dX11_repair_3 : decode cX11_repair 3 = .ok (.invokevirtual 348, 3) := by decide +kernel
theorem dX11_repair_6 : decode cX11_repair 6 = .ok (.ifCond .ne 7, 3) := by decide +kernel
theorem dX11_repair_9 : decode cX11_repair 9 = .ok (.sipush (-1001), 3) := by decide +kernel
theorem dX11_repair_12 : decode cX11_repair 12 = .ok (.ireturn, 1) := by decide +kernel
theorem dX11_repair_13 : decode cX11_repair 13 = .ok (.aload_n 0, 1) := by decide +kernel
theorem dX11_repair_14 : decode cX11_repair 14 = .ok (.iload_n 2, 1) := by decide +kernel
theorem dX11_repair_15 : decode cX11_repair 15 = .ok (.invokevirtual 290, 3) := by decide +kernel
theorem dX11_repair_18 : decode cX11_repair 18 = .ok (.ifCond .ne 7, 3) := by decide +kernel
theorem dX11_repair_21 : decode cX11_repair 21 = .ok (.sipush (-1002), 3) := by decide +kernel
theorem dX11_repair_24 : decode cX11_repair 24 = .ok (.ireturn, 1) := by decide +kernel
theorem dX11_repair_25 : decode cX11_repair 25 = .ok (.aload_n 0, 1) := by decide +kernel
theorem dX11_repair_26 : decode cX11_repair 26 = .ok (.iload_n 2, 1) := by decide +kernel
theorem dX11_repair_27 : decode cX11_repair 27 = .ok (.invokevirtual 256, 3) := by decide +kernel
theorem dX11_repair_30 : decode cX11_repair 30 = .ok (.lstore_n 3, 1) := by decide +kernel
theorem dX11_repair_31 : decode cX11_repair 31 = .ok (.aload_n 0, 1) := by decide +kernel
theorem dX11_repair_32 : decode cX11_repair 32 = .ok (.getfield 55, 3) := by decide +kernel
theorem dX11_repair_35 : decode cX11_repair 35 = .ok (.iload_n 2, 1) := by decide +kernel
theorem dX11_repair_36 : decode cX11_repair 36 = .ok (.iaload, 1) := by decide +kernel
theorem dX11_repair_37 : decode cX11_repair 37 = .ok (.aload_n 0, 1) := by decide +kernel
theorem dX11_repair_38 : decode cX11_repair 38 = .ok (.getfield 52, 3) := by decide +kernel
theorem dX11_repair_41 : decode cX11_repair 41 = .ok (.iload_n 2, 1) := by decide +kernel
theorem dX11_repair_42 : decode cX11_repair 42 = .ok (.iaload, 1) := by decide +kernel
theorem dX11_repair_43 : decode cX11_repair 43 = .ok (.bipush 16, 2) := by decide +kernel
theorem dX11_repair_45 : decode cX11_repair 45 = .ok (.iadd, 1) := by decide +kernel
theorem dX11_repair_46 : decode cX11_repair 46 = .ok (.invokestatic 363, 3) := by decide +kernel
theorem dX11_repair_49 : decode cX11_repair 49 = .ok (.istore 5, 2) := by decide +kernel
theorem dX11_repair_51 : decode cX11_repair 51 = .ok (.aload_n 0, 1) := by decide +kernel
theorem dX11_repair_52 : decode cX11_repair 52 = .ok (.getfield 52, 3) := by decide +kernel
theorem dX11_repair_55 : decode cX11_repair 55 = .ok (.iload_n 2, 1) := by decide +kernel
theorem dX11_repair_56 : decode cX11_repair 56 = .ok (.iaload, 1) := by decide +kernel
theorem dX11_repair_57 : decode cX11_repair 57 = .ok (.istore 6, 2) := by decide +kernel
theorem dX11_repair_59 : decode cX11_repair 59 = .ok (.iload 6, 2) := by decide +kernel
theorem dX11_repair_61 : decode cX11_repair 61 = .ok (.iload 5, 2) := by decide +kernel
theorem dX11_repair_63 : decode cX11_repair 63 = .ok (.if_icmp .ge 90, 3) := by decide +kernel
theorem dX11_repair_66 : decode cX11_repair 66 = .ok (.aload_n 0, 1) := by decide +kernel
theorem dX11_repair_67 : decode cX11_repair 67 = .ok (.getfield 7, 3) := by decide +kernel
theorem dX11_repair_70 : decode cX11_repair 70 = .ok (.iload 6, 2) := by decide +kernel
theorem dX11_repair_72 : decode cX11_repair 72 = .ok (.iaload, 1) := by decide +kernel
theorem dX11_repair_73 : decode cX11_repair 73 = .ok (.istore 7, 2) := by decide +kernel
theorem dX11_repair_75 : decode cX11_repair 75 = .ok (.iconst (-1), 1) := by decide +kernel
theorem dX11_repair_76 : decode cX11_repair 76 = .ok (.istore 8, 2) := by decide +kernel
theorem dX11_repair_78 : decode cX11_repair 78 = .ok (.sipush 255, 3) := by decide +kernel
theorem dX11_repair_81 : decode cX11_repair 81 = .ok (.istore 9, 2) := by decide +kernel
theorem dX11_repair_83 : decode cX11_repair 83 = .ok (.iload 9, 2) := by decide +kernel
theorem dX11_repair_85 : decode cX11_repair 85 = .ok (.ifCond .lt 38, 3) := by decide +kernel
theorem dX11_repair_88 : decode cX11_repair 88 = .ok (.aload_n 0, 1) := by decide +kernel
theorem dX11_repair_89 : decode cX11_repair 89 = .ok (.getfield 7, 3) := by decide +kernel
theorem dX11_repair_92 : decode cX11_repair 92 = .ok (.iload 6, 2) := by decide +kernel
theorem dX11_repair_94 : decode cX11_repair 94 = .ok (.iload 9, 2) := by decide +kernel
theorem dX11_repair_96 : decode cX11_repair 96 = .ok (.iastore, 1) := by decide +kernel
theorem dX11_repair_97 : decode cX11_repair 97 = .ok (.aload_n 0, 1) := by decide +kernel
theorem dX11_repair_98 : decode cX11_repair 98 = .ok (.iload_n 2, 1) := by decide +kernel
theorem dX11_repair_99 : decode cX11_repair 99 = .ok (.invokevirtual 287, 3) := by decide +kernel
theorem dX11_repair_102 : decode cX11_repair 102 = .ok (.i2l, 1) := by decide +kernel
theorem dX11_repair_103 : decode cX11_repair 103 = .ok (.lload_n 3, 1) := by decide +kernel
theorem dX11_repair_104 : decode cX11_repair 104 = .ok (.lcmp, 1) := by decide +kernel
theorem dX11_repair_105 : decode cX11_repair 105 = .ok (.ifCond .ne 8, 3) := by decide +kernel
theorem dX11_repair_108 : decode cX11_repair 108 = .ok (.iload 9, 2) := by decide +kernel
theorem dX11_repair_110 : decode cX11_repair 110 = .ok (.goto 5, 3) := by decide +kernel
theorem dX11_repair_113 : decode cX11_repair 113 = .ok (.iload 8, 2) := by decide +kernel
theorem dX11_repair_115 : decode cX11_repair 115 = .ok (.istore 8, 2) := by decide +kernel
theorem dX11_repair_117 : decode cX11_repair 117 = .ok (.iinc 9 (-1), 3) := by decide +kernel
theorem dX11_repair_120 : decode cX11_repair 120 = .ok (.goto (-37), 3) := by decide +kernel
theorem dX11_repair_123 : decode cX11_repair 123 = .ok (.aload_n 0, 1) := by decide +kernel
theorem dX11_repair_124 : decode cX11_repair 124 = .ok (.getfield 7, 3) := by decide +kernel
theorem dX11_repair_127 : decode cX11_repair 127 = .ok (.iload 6, 2) := by decide +kernel
theorem dX11_repair_129 : decode cX11_repair 129 = .ok (.iload 7, 2) := by decide +kernel
theorem dX11_repair_131 : decode cX11_repair 131 = .ok (.iastore, 1) := by decide +kernel
theorem dX11_repair_132 : decode cX11_repair 132 = .ok (.iload 8, 2) := by decide +kernel
theorem dX11_repair_134 : decode cX11_repair 134 = .ok (.ifCond .lt 13, 3) := by decide +kernel
theorem dX11_repair_137 : decode cX11_repair 137 = .ok (.sipush 256, 3) := by decide +kernel
theorem dX11_repair_140 : decode cX11_repair 140 = .ok (.iload 6, 2) := by decide +kernel
theorem dX11_repair_142 : decode cX11_repair 142 = .ok (.imul, 1) := by decide +kernel
theorem dX11_repair_143 : decode cX11_repair 143 = .ok (.iload 8, 2) := by decide +kernel
theorem dX11_repair_145 : decode cX11_repair 145 = .ok (.iadd, 1) := by decide +kernel
theorem dX11_repair_146 : decode cX11_repair 146 = .ok (.ireturn, 1) := by decide +kernel
theorem dX11_repair_147 : decode cX11_repair 147 = .ok (.iinc 6 1, 3) := by decide +kernel
theorem dX11_repair_150 : decode cX11_repair 150 = .ok (.goto (-91), 3) := by decide +kernel
theorem dX11_repair_153 : decode cX11_repair 153 = .ok (.sipush (-1009), 3) := by decide +kernel
theorem dX11_repair_156 : decode cX11_repair 156 = .ok (.ireturn, 1) := by decide +kernel
theorem vc_X11_repair_0 {G : zG} {d : Nat} {Q : Option zV → zHp → Prop} (p1 : Int) (p2 : Int) (h : zHp) (hS : zSh h) (hd : 6 ≤ d) (I_59 : Int → Int → Int → Int → Int → zHp → Prop) (hI_59 : ∀ (y1 : Int) (y2 : Int) (y3 : Int) (y5 : Int) (y6 : Int) (h' : zHp), I_59 y1 y2 y3 y5 y6 h' → wpN G d M_X11_repair 59 [(0, vR 343), (1, vI y1), (2, vI y2), (3, vL y3), (5, vI y5), (6, vI y6)] [] h' Q) 
    (hv : (wpN G (d - 1) M_X11_hasField 0 (zar 0 [vR 343, vI p1, vI p2]) [] h (qI (fun z1 h2 => zSh h2 ∧ ((z1 ≠ 0 → (wpN G (d - 1) M_X11_isWrong 0 (zar 0 [vR 343, vI p2]) [] h2 (qI (fun z6 h7 => zSh h7 ∧ ((z6 ≠ 0 → (wpN G (d - 1) M_X11_valueOf 0 (zar 0 [vR 343, vI p2]) [] h7 (qL (fun z11 h12 => zSh h12 ∧ (((0 : Int) ≤ p2 ∧ p2 < ((60 : Nat) : Int)) ∧ (((0 : Int) ≤ p2 ∧ p2 < ((60 : Nat) : Int)) ∧ ((-2147483648 ≤ (gI h12 358 p2.toNat) + 16 ∧ (gI h12 358 p2.toNat) + 16 ≤ 2147483647) ∧ (wpN G (d - 1) M_X11_less 0 (zar 0 [vI (gI h12 359 p2.toNat), vI ((gI h12 358 p2.toNat) + 16)]) [] h12 (qI (fun z15 h16 => zSh h16 ∧ (((0 : Int) ≤ p2 ∧ p2 < ((60 : Nat) : Int)) ∧ (∀ x19 : Int, x19 = (gI h16 358 p2.toNat) → (zSh h16 → I_59 p1 p2 z11 z15 x19 h16))))))))))))) ∧ (z6 = 0 → Q (some (vI (-1002))) h7)))))) ∧ (z1 = 0 → Q (some (vI (-1001))) h2)))))) : wpN G d M_X11_repair 0 [(0, vR 343), (1, vI p1), (2, vI p2)] [] h Q := by
  refine wq_aload_n 0 rfl rfl dX11_repair_0 ?_
  refine wq_iload_n 1 rfl rfl dX11_repair_1 ?_
  refine wq_iload_n 2 rfl rfl dX11_repair_2 ?_
  refine wN_V (As := [vI p1, vI p2]) vm_X11_hasField lk_X11_348 tT_343 rfl rfl (Nat.le_of_ble_eq_true rfl) (Nat.le_of_ble_eq_true rfl) (d' := d - 1) (by omega) dX11_repair_3 hv (fun v9 h2 q3 => ?_)
  obtain ⟨z1, rfl, hS4, q3⟩ := q3
  refine wq_st (st' := [vI z1]) rfl ?_
  refine wq_if_ne 13 rfl dX11_repair_6 (fun c5 => ?_) (fun c5 => ?_)
  · refine wq_aload_n 0 rfl rfl dX11_repair_13 ?_
    refine wq_iload_n 2 rfl rfl dX11_repair_14 ?_
    refine wN_V (As := [vI p2]) vm_X11_isWrong lk_X11_290 tT_343 rfl rfl (Nat.le_of_ble_eq_true rfl) (Nat.le_of_ble_eq_true rfl) (d' := d - 1) (by omega) dX11_repair_15 (q3.1 c5) (fun v9 h7 q8 => ?_)
    obtain ⟨z6, rfl, hS9, q8⟩ := q8
    refine wq_st (st' := [vI z6]) rfl ?_
    refine wq_if_ne 25 rfl dX11_repair_18 (fun c10 => ?_) (fun c10 => ?_)
    · refine wq_aload_n 0 rfl rfl dX11_repair_25 ?_
      refine wq_iload_n 2 rfl rfl dX11_repair_26 ?_
      refine wN_V (As := [vI p2]) vm_X11_valueOf lk_X11_256 tT_343 rfl rfl (Nat.le_of_ble_eq_true rfl) (Nat.le_of_ble_eq_true rfl) (d' := d - 1) (by omega) dX11_repair_27 (q8.1 c10) (fun v9 h12 q13 => ?_)
      obtain ⟨z11, rfl, hS14, q13⟩ := q13
      refine wq_st (st' := [vL z11]) rfl ?_
      refine wq_lstore_n (ls' := [(0, vR 343), (1, vI p1), (2, vI p2), (3, vL z11)]) rfl (by decide) rfl dX11_repair_30 ?_
      refine wq_aload_n 0 rfl rfl dX11_repair_31 ?_
      refine wq_getR fk_X11_55 tT_343 (fun _ _ _ => rfl) (sh_11_28 hS14) (by decide) dX11_repair_32 ?_
      refine wq_iload_n 2 rfl rfl dX11_repair_35 ?_
      refine wq_iald tT_359 q13.1.1 q13.1.2 dX11_repair_36 ?_
      refine wq_aload_n 0 rfl rfl dX11_repair_37 ?_
      refine wq_getR fk_X11_52 tT_343 (fun _ _ _ => rfl) (sh_11_27 hS14) (by decide) dX11_repair_38 ?_
      refine wq_iload_n 2 rfl rfl dX11_repair_41 ?_
      refine wq_iald tT_358 q13.2.1.1 q13.2.1.2 dX11_repair_42 ?_
      refine wq_bipush (z := 16) (zlit rfl) rfl dX11_repair_43 ?_
      refine wq_iadd q13.2.2.1 dX11_repair_45 ?_
      refine wN_S (As := [vI (gI h12 359 p2.toNat), vI ((gI h12 358 p2.toNat) + 16)]) md_X11_less ms_X11_less lk_X11_363 rfl rfl (Nat.le_of_ble_eq_true rfl) (Nat.le_of_ble_eq_true rfl) (d' := d - 1) (by omega) dX11_repair_46 q13.2.2.2 (fun v9 h16 q17 => ?_)
      obtain ⟨z15, rfl, hS18, q17⟩ := q17
      refine wq_st (st' := [vI z15]) rfl ?_
      refine wq_istore (ls' := [(0, vR 343), (1, vI p1), (2, vI p2), (3, vL z11), (5, vI z15)]) (by decide) rfl dX11_repair_49 ?_
      refine wq_aload_n 0 rfl rfl dX11_repair_51 ?_
      refine wq_getR fk_X11_52 tT_343 (fun _ _ _ => rfl) (sh_11_27 hS18) (by decide) dX11_repair_52 ?_
      refine wq_iload_n 2 rfl rfl dX11_repair_55 ?_
      refine wq_iald tT_358 q17.1.1 q17.1.2 dX11_repair_56 ?_
      refine wq_topI (fun x19 e20 => ?_)
      refine wq_istore (ls' := [(0, vR 343), (1, vI p1), (2, vI p2), (3, vL z11), (5, vI z15), (6, vI x19)]) (by decide) rfl dX11_repair_57 ?_
      exact wq_pick [0, 1, 2, 3, 4, 5] rfl (hI_59 p1 p2 z11 z15 x19 h16 ((q17.2 x19 e20) hS18))
    · refine wq_sipush (z := -1002) (zlit rfl) rfl dX11_repair_21 ?_
      exact wp_iret rfl dX11_repair_24 (q8.2 c10)
  · refine wq_sipush (z := -1001) (zlit rfl) rfl dX11_repair_9 ?_
    exact wp_iret rfl dX11_repair_12 (q3.2 c5)
theorem vc_X11_repair_59 {G : zG} {d : Nat} {Q : Option zV → zHp → Prop} (y1 : Int) (y2 : Int) (y3 : Int) (y5 : Int) (y6 : Int) (h : zHp) (hS : zSh h) (hd : 6 ≤ d) (I_83 : Int → Int → Int → Int → Int → Int → Int → Int → zHp → Prop) (hI_83 : ∀ (y1 : Int) (y2 : Int) (y3 : Int) (y5 : Int) (y6 : Int) (y7 : Int) (y8 : Int) (y9 : Int) (h' : zHp), I_83 y1 y2 y3 y5 y6 y7 y8 y9 h' → wpN G d M_X11_repair 83 [(0, vR 343), (1, vI y1), (2, vI y2), (3, vL y3), (5, vI y5), (6, vI y6), (7, vI y7), (8, vI y8), (9, vI y9)] [] h' Q) 
    (hv : ((y5 ≤ y6 → Q (some (vI (-1009))) h) ∧ (y6 < y5 → (((0 : Int) ≤ y6 ∧ y6 < ((213 : Nat) : Int)) ∧ (∀ x2 : Int, x2 = (gI h 344 y6.toNat) → (zSh h → I_83 y1 y2 y3 y5 y6 x2 (-1) 255 h)))))) : wpN G d M_X11_repair 59 [(0, vR 343), (1, vI y1), (2, vI y2), (3, vL y3), (5, vI y5), (6, vI y6)] [] h Q := by
  refine wq_iload 5 rfl dX11_repair_59 ?_
  refine wq_iload 4 rfl dX11_repair_61 ?_
  refine wq_icmp_ge 153 rfl dX11_repair_63 (fun c1 => ?_) (fun c1 => ?_)
  · refine wq_sipush (z := -1009) (zlit rfl) rfl dX11_repair_153 ?_
    exact wp_iret rfl dX11_repair_156 (hv.1 c1)
  · refine wq_aload_n 0 rfl rfl dX11_repair_66 ?_
    refine wq_getR fk_X11_7 tT_343 (fun _ _ _ => rfl) (sh_11_0 hS) (by decide) dX11_repair_67 ?_
    refine wq_iload 5 rfl dX11_repair_70 ?_
    refine wq_iald tT_344 (hv.2 c1).1.1 (hv.2 c1).1.2 dX11_repair_72 ?_
    refine wq_topI (fun x2 e3 => ?_)
    refine wq_istore (ls' := [(0, vR 343), (1, vI y1), (2, vI y2), (3, vL y3), (5, vI y5), (6, vI y6), (7, vI x2)]) (by decide) rfl dX11_repair_73 ?_
    refine wq_iconst (z := -1) (zlit rfl) dX11_repair_75 ?_
    refine wq_istore (ls' := [(0, vR 343), (1, vI y1), (2, vI y2), (3, vL y3), (5, vI y5), (6, vI y6), (7, vI x2), (8, vI (-1))]) (by decide) rfl dX11_repair_76 ?_
    refine wq_sipush (z := 255) (zlit rfl) rfl dX11_repair_78 ?_
    refine wq_istore (ls' := [(0, vR 343), (1, vI y1), (2, vI y2), (3, vL y3), (5, vI y5), (6, vI y6), (7, vI x2), (8, vI (-1)), (9, vI 255)]) (by decide) rfl dX11_repair_81 ?_
    exact wq_pick [0, 1, 2, 3, 4, 5, 6, 7, 8] rfl (hI_83 y1 y2 y3 y5 y6 x2 (-1) 255 h (((hv.2 c1).2 x2 e3) hS))
theorem vc_X11_repair_83 {G : zG} {d : Nat} {Q : Option zV → zHp → Prop} (y1 : Int) (y2 : Int) (y3 : Int) (y5 : Int) (y6 : Int) (y7 : Int) (y8 : Int) (y9 : Int) (h : zHp) (hS : zSh h) (hd : 6 ≤ d) (I_59 : Int → Int → Int → Int → Int → zHp → Prop) (hI_59 : ∀ (y1 : Int) (y2 : Int) (y3 : Int) (y5 : Int) (y6 : Int) (h' : zHp), I_59 y1 y2 y3 y5 y6 h' → wpN G d M_X11_repair 59 [(0, vR 343), (1, vI y1), (2, vI y2), (3, vL y3), (5, vI y5), (6, vI y6)] [] h' Q) (I_83 : Int → Int → Int → Int → Int → Int → Int → Int → zHp → Prop) (hI_83 : ∀ (y1 : Int) (y2 : Int) (y3 : Int) (y5 : Int) (y6 : Int) (y7 : Int) (y8 : Int) (y9 : Int) (h' : zHp), I_83 y1 y2 y3 y5 y6 y7 y8 y9 h' → wpN G d M_X11_repair 83 [(0, vR 343), (1, vI y1), (2, vI y2), (3, vL y3), (5, vI y5), (6, vI y6), (7, vI y7), (8, vI y8), (9, vI y9)] [] h' Q) 
    (hv : ((y9 < 0 → (((0 : Int) ≤ y6 ∧ y6 < ((213 : Nat) : Int)) ∧ (∀ h2 : zHp, h2 = sI h 344 y6.toNat y7 → ((y8 < 0 → ((-2147483648 ≤ y6 + 1 ∧ y6 + 1 ≤ 2147483647) ∧ ∀ x5 : Int, x5 = y6 + 1 → (zSh h2 → I_59 y1 y2 y3 y5 x5 h2))) ∧ (0 ≤ y8 → ((-2147483648 ≤ 256 * y6 ∧ 256 * y6 ≤ 2147483647) ∧ ((-2147483648 ≤ (256 * y6) + y8 ∧ (256 * y6) + y8 ≤ 2147483647) ∧ Q (some (vI ((256 * y6) + y8))) h2))))))) ∧ (0 ≤ y9 → (((0 : Int) ≤ y6 ∧ y6 < ((213 : Nat) : Int)) ∧ (∀ h7 : zHp, h7 = sI h 344 y6.toNat y9 → (wpN G (d - 1) M_X11_expectedOf 0 (zar 0 [vR 343, vI y2]) [] h7 (qI (fun z9 h10 => zSh h10 ∧ ((z9 ≠ y3 → ((-2147483648 ≤ y9 + (-1) ∧ y9 + (-1) ≤ 2147483647) ∧ ∀ x14 : Int, x14 = y9 + (-1) → (zSh h10 → I_83 y1 y2 y3 y5 y6 y7 y8 x14 h10))) ∧ (z9 = y3 → ((-2147483648 ≤ y9 + (-1) ∧ y9 + (-1) ≤ 2147483647) ∧ ∀ x16 : Int, x16 = y9 + (-1) → (zSh h10 → I_83 y1 y2 y3 y5 y6 y7 y9 x16 h10)))))))))))) : wpN G d M_X11_repair 83 [(0, vR 343), (1, vI y1), (2, vI y2), (3, vL y3), (5, vI y5), (6, vI y6), (7, vI y7), (8, vI y8), (9, vI y9)] [] h Q := by
  refine wq_iload 8 rfl dX11_repair_83 ?_
  refine wq_if_lt 123 rfl dX11_repair_85 (fun c1 => ?_) (fun c1 => ?_)
  · refine wq_aload_n 0 rfl rfl dX11_repair_123 ?_
    refine wq_getR fk_X11_7 tT_343 (fun _ _ _ => rfl) (sh_11_0 hS) (by decide) dX11_repair_124 ?_
    refine wq_iload 5 rfl dX11_repair_127 ?_
    refine wq_iload 6 rfl dX11_repair_129 ?_
    refine wq_iast tT_344 (hv.1 c1).1.1 (hv.1 c1).1.2 dX11_repair_131 ?_
    refine wq_toph (fun h2 e3 => ?_)
    have sh2 : zSh h2 := zSh_of e3 hS
    refine wq_iload 7 rfl dX11_repair_132 ?_
    refine wq_if_lt 147 rfl dX11_repair_134 (fun c4 => ?_) (fun c4 => ?_)
    · refine z_nm (y6 + 1) (fun x5 e6 => ?_)
      refine wq_iinc (y := x5) (ls' := [(0, vR 343), (1, vI y1), (2, vI y2), (3, vL y3), (5, vI y5), (6, vI x5), (7, vI y7), (8, vI y8), (9, vI y9)]) 5 rfl e6.symm (by rw [e6]; exact (((hv.1 c1).2 h2 e3).1 c4).1) (by decide) rfl dX11_repair_147 ?_
      refine wq_goto 59 rfl dX11_repair_150 ?_
      exact wq_pick [0, 1, 2, 3, 4, 5] rfl (hI_59 y1 y2 y3 y5 x5 h2 (((((hv.1 c1).2 h2 e3).1 c4).2 x5 e6) sh2))
    · refine wq_sipush (z := 256) (zlit rfl) rfl dX11_repair_137 ?_
      refine wq_iload 5 rfl dX11_repair_140 ?_
      refine wq_imul (((hv.1 c1).2 h2 e3).2 c4).1 dX11_repair_142 ?_
      refine wq_iload 7 rfl dX11_repair_143 ?_
      refine wq_iadd (((hv.1 c1).2 h2 e3).2 c4).2.1 dX11_repair_145 ?_
      exact wp_iret rfl dX11_repair_146 (((hv.1 c1).2 h2 e3).2 c4).2.2
  · refine wq_aload_n 0 rfl rfl dX11_repair_88 ?_
    refine wq_getR fk_X11_7 tT_343 (fun _ _ _ => rfl) (sh_11_0 hS) (by decide) dX11_repair_89 ?_
    refine wq_iload 5 rfl dX11_repair_92 ?_
    refine wq_iload 8 rfl dX11_repair_94 ?_
    refine wq_iast tT_344 (hv.2 c1).1.1 (hv.2 c1).1.2 dX11_repair_96 ?_
    refine wq_toph (fun h7 e8 => ?_)
    have sh7 : zSh h7 := zSh_of e8 hS
    refine wq_aload_n 0 rfl rfl dX11_repair_97 ?_
    refine wq_iload_n 2 rfl rfl dX11_repair_98 ?_
    refine wN_V (As := [vI y2]) vm_X11_expectedOf lk_X11_287 tT_343 rfl rfl (Nat.le_of_ble_eq_true rfl) (Nat.le_of_ble_eq_true rfl) (d' := d - 1) (by omega) dX11_repair_99 ((hv.2 c1).2 h7 e8) (fun v9 h10 q11 => ?_)
    obtain ⟨z9, rfl, hS12, q11⟩ := q11
    refine wq_st (st' := [vI z9]) rfl ?_
    refine wq_i2l dX11_repair_102 ?_
    refine wq_lload_n 3 rfl rfl dX11_repair_103 ?_
    refine wq_lcmp_ne 113 rfl dX11_repair_104 dX11_repair_105 (fun c13 => ?_) (fun c13 => ?_)
    · refine wq_iload 7 rfl dX11_repair_113 ?_
      refine wq_istore (ls' := [(0, vR 343), (1, vI y1), (2, vI y2), (3, vL y3), (5, vI y5), (6, vI y6), (7, vI y7), (8, vI y8), (9, vI y9)]) (by decide) rfl dX11_repair_115 ?_
      refine z_nm (y9 + (-1)) (fun x14 e15 => ?_)
      refine wq_iinc (y := x14) (ls' := [(0, vR 343), (1, vI y1), (2, vI y2), (3, vL y3), (5, vI y5), (6, vI y6), (7, vI y7), (8, vI y8), (9, vI x14)]) 8 rfl e15.symm (by rw [e15]; exact (q11.1 c13).1) (by decide) rfl dX11_repair_117 ?_
      refine wq_goto 83 rfl dX11_repair_120 ?_
      exact wq_pick [0, 1, 2, 3, 4, 5, 6, 7, 8] rfl (hI_83 y1 y2 y3 y5 y6 y7 y8 x14 h10 (((q11.1 c13).2 x14 e15) hS12))
    · refine wq_iload 8 rfl dX11_repair_108 ?_
      refine wq_goto 115 rfl dX11_repair_110 ?_
      refine wq_istore (ls' := [(0, vR 343), (1, vI y1), (2, vI y2), (3, vL y3), (5, vI y5), (6, vI y6), (7, vI y7), (8, vI y9), (9, vI y9)]) (by decide) rfl dX11_repair_115 ?_
      refine z_nm (y9 + (-1)) (fun x16 e17 => ?_)
      refine wq_iinc (y := x16) (ls' := [(0, vR 343), (1, vI y1), (2, vI y2), (3, vL y3), (5, vI y5), (6, vI y6), (7, vI y7), (8, vI y9), (9, vI x16)]) 8 rfl e17.symm (by rw [e17]; exact (q11.2 c13).1) (by decide) rfl dX11_repair_117 ?_
      refine wq_goto 83 rfl dX11_repair_120 ?_
      exact wq_pick [0, 1, 2, 3, 4, 5, 6, 7, 8] rfl (hI_83 y1 y2 y3 y5 y6 y7 y9 x16 h10 (((q11.2 c13).2 x16 e17) hS12))
theorem dX11_undo_0 : decode cX11_undo 0 = .ok (.aload_n 0, 1) := by decide +kernel
theorem dX11_undo_1 : decode cX11_undo 1 = .ok (.getfield 317, 3) := by decide +kernel
theorem dX11_undo_4 : decode cX11_undo 4 = .ok (.ifCond .ne 7, 3) := by decide +kernel
theorem dX11_undo_7 : decode cX11_undo 7 = .ok (.sipush (-1002), 3) := by decide +kernel
theorem dX11_undo_10 : decode cX11_undo 10 = .ok (.ireturn, 1) := by decide +kernel
theorem dX11_undo_11 : decode cX11_undo 11 = .ok (.aload_n 0, 1) := by decide +kernel
theorem dX11_undo_12 : decode cX11_undo 12 = .ok (.dup, 1) := by decide +kernel
theorem dX11_undo_13 : decode cX11_undo 13 = .ok (.getfield 317, 3) := by decide +kernel
theorem dX11_undo_16 : decode cX11_undo 16 = .ok (.iconst 1, 1) := by decide +kernel
theorem dX11_undo_17 : decode cX11_undo 17 = .ok (.isub, 1) := by decide +kernel
theorem dX11_undo_18 : decode cX11_undo 18 = .ok (.putfield 317, 3) := by decide +kernel
theorem dX11_undo_21 : decode cX11_undo 21 = .ok (.aload_n 0, 1) := by decide +kernel
theorem dX11_undo_22 : decode cX11_undo 22 = .ok (.getfield 7, 3) := by decide +kernel
theorem dX11_undo_25 : decode cX11_undo 25 = .ok (.iconst 0, 1) := by decide +kernel
theorem dX11_undo_26 : decode cX11_undo 26 = .ok (.aload_n 0, 1) := by decide +kernel
theorem dX11_undo_27 : decode cX11_undo 27 = .ok (.getfield 16, 3) := by decide +kernel
theorem dX11_undo_30 : decode cX11_undo 30 = .ok (.sipush 213, 3) := by decide +kernel
theorem dX11_undo_33 : decode cX11_undo 33 = .ok (.aload_n 0, 1) := by decide +kernel
theorem dX11_undo_34 : decode cX11_undo 34 = .ok (.getfield 320, 3) := by decide +kernel
theorem dX11_undo_37 : decode cX11_undo 37 = .ok (.imul, 1) := by decide +kernel
theorem dX11_undo_38 : decode cX11_undo 38 = .ok (.invokestatic 306, 3) := by decide +kernel
theorem dX11_undo_41 : decode cX11_undo 41 = .ok (.aload_n 0, 1) := by decide +kernel
theorem dX11_undo_42 : decode cX11_undo 42 = .ok (.dup, 1) := by decide +kernel
theorem dX11_undo_43 : decode cX11_undo 43 = .ok (.getfield 320, 3) := by decide +kernel
theorem dX11_undo_46 : decode cX11_undo 46 = .ok (.iconst 1, 1) := by decide +kernel
theorem dX11_undo_47 : decode cX11_undo 47 = .ok (.iadd, 1) := by decide +kernel
theorem dX11_undo_48 : decode cX11_undo 48 = .ok (.putfield 320, 3) := by decide +kernel
theorem dX11_undo_51 : decode cX11_undo 51 = .ok (.aload_n 0, 1) := by decide +kernel
theorem dX11_undo_52 : decode cX11_undo 52 = .ok (.getfield 13, 3) := by decide +kernel
theorem dX11_undo_55 : decode cX11_undo 55 = .ok (.sipush 213, 3) := by decide +kernel
theorem dX11_undo_58 : decode cX11_undo 58 = .ok (.aload_n 0, 1) := by decide +kernel
theorem dX11_undo_59 : decode cX11_undo 59 = .ok (.getfield 317, 3) := by decide +kernel
theorem dX11_undo_62 : decode cX11_undo 62 = .ok (.imul, 1) := by decide +kernel
theorem dX11_undo_63 : decode cX11_undo 63 = .ok (.aload_n 0, 1) := by decide +kernel
theorem dX11_undo_64 : decode cX11_undo 64 = .ok (.getfield 7, 3) := by decide +kernel
theorem dX11_undo_67 : decode cX11_undo 67 = .ok (.iconst 0, 1) := by decide +kernel
theorem dX11_undo_68 : decode cX11_undo 68 = .ok (.invokestatic 306, 3) := by decide +kernel
theorem dX11_undo_71 : decode cX11_undo 71 = .ok (.aload_n 0, 1) := by decide +kernel
theorem dX11_undo_72 : decode cX11_undo 72 = .ok (.getfield 317, 3) := by decide +kernel
theorem dX11_undo_75 : decode cX11_undo 75 = .ok (.ireturn, 1) := by decide +kernel
theorem vc_X11_undo_0 {G : zG} {d : Nat} {Q : Option zV → zHp → Prop}  (h : zHp) (hS : zSh h) (hd : 1 ≤ d)  
    (hv : (((gI h 343 2) ≠ 0 → ((-2147483648 ≤ (gI h 343 2) - 1 ∧ (gI h 343 2) - 1 ≤ 2147483647) ∧ (∀ h2 : zHp, h2 = sI h 343 2 ((gI h 343 2) - 1) → ((-2147483648 ≤ 213 * (gI h2 343 4) ∧ 213 * (gI h2 343 4) ≤ 2147483647) ∧ (wpN G (d - 1) M_X11_copies 0 (zar 0 [vR 344, vI 0, vR 346, vI (213 * (gI h2 343 4))]) [] h2 (qV (fun h5 => zSh h5 ∧ ((-2147483648 ≤ (gI h5 343 4) + 1 ∧ (gI h5 343 4) + 1 ≤ 2147483647) ∧ (∀ h8 : zHp, h8 = sI h5 343 4 ((gI h5 343 4) + 1) → ((-2147483648 ≤ 213 * (gI h8 343 2) ∧ 213 * (gI h8 343 2) ≤ 2147483647) ∧ (wpN G (d - 1) M_X11_copies 0 (zar 0 [vR 345, vI (213 * (gI h8 343 2)), vR 344, vI 0]) [] h8 (qV (fun h11 => zSh h11 ∧ Q (some (vI (gI h11 343 2))) h11))))))))))))) ∧ ((gI h 343 2) = 0 → Q (some (vI (-1002))) h))) : wpN G d M_X11_undo 0 [(0, vR 343)] [] h Q := by
  refine wq_aload_n 0 rfl rfl dX11_undo_0 ?_
  refine wq_getI fk_X11_317 tT_343 (fun _ _ _ => rfl) dX11_undo_1 ?_
  refine wq_if_ne 11 rfl dX11_undo_4 (fun c1 => ?_) (fun c1 => ?_)
  · refine wq_aload_n 0 rfl rfl dX11_undo_11 ?_
    refine wq_dup rfl dX11_undo_12 ?_
    refine wq_getI fk_X11_317 tT_343 (fun _ _ _ => rfl) dX11_undo_13 ?_
    refine wq_iconst (z := 1) (zlit rfl) dX11_undo_16 ?_
    refine wq_isub (hv.1 c1).1 dX11_undo_17 ?_
    refine wq_putI fk_X11_317 tT_343 rfl rfl dX11_undo_18 ?_
    refine wq_toph (fun h2 e3 => ?_)
    have sh2 : zSh h2 := zSh_of e3 hS
    refine wq_aload_n 0 rfl rfl dX11_undo_21 ?_
    refine wq_getR fk_X11_7 tT_343 (fun _ _ _ => rfl) (sh_11_0 sh2) (by decide) dX11_undo_22 ?_
    refine wq_iconst (z := 0) (zlit rfl) dX11_undo_25 ?_
    refine wq_aload_n 0 rfl rfl dX11_undo_26 ?_
    refine wq_getR fk_X11_16 tT_343 (fun _ _ _ => rfl) (sh_11_3 sh2) (by decide) dX11_undo_27 ?_
    refine wq_sipush (z := 213) (zlit rfl) rfl dX11_undo_30 ?_
    refine wq_aload_n 0 rfl rfl dX11_undo_33 ?_
    refine wq_getI fk_X11_320 tT_343 (fun _ _ _ => rfl) dX11_undo_34 ?_
    refine wq_imul ((hv.1 c1).2 h2 e3).1 dX11_undo_37 ?_
    refine wN_S (As := [vR 344, vI 0, vR 346, vI (213 * (gI h2 343 4))]) md_X11_copies ms_X11_copies lk_X11_306 rfl rfl (Nat.le_of_ble_eq_true rfl) (Nat.le_of_ble_eq_true rfl) (d' := d - 1) (by omega) dX11_undo_38 ((hv.1 c1).2 h2 e3).2 (fun v9 h5 q6 => ?_)
    obtain ⟨rfl, hS7, q6⟩ := q6
    refine wq_st (st' := []) rfl ?_
    refine wq_aload_n 0 rfl rfl dX11_undo_41 ?_
    refine wq_dup rfl dX11_undo_42 ?_
    refine wq_getI fk_X11_320 tT_343 (fun _ _ _ => rfl) dX11_undo_43 ?_
    refine wq_iconst (z := 1) (zlit rfl) dX11_undo_46 ?_
    refine wq_iadd q6.1 dX11_undo_47 ?_
    refine wq_putI fk_X11_320 tT_343 rfl rfl dX11_undo_48 ?_
    refine wq_toph (fun h8 e9 => ?_)
    have sh8 : zSh h8 := zSh_of e9 hS7
    refine wq_aload_n 0 rfl rfl dX11_undo_51 ?_
    refine wq_getR fk_X11_13 tT_343 (fun _ _ _ => rfl) (sh_11_1 sh8) (by decide) dX11_undo_52 ?_
    refine wq_sipush (z := 213) (zlit rfl) rfl dX11_undo_55 ?_
    refine wq_aload_n 0 rfl rfl dX11_undo_58 ?_
    refine wq_getI fk_X11_317 tT_343 (fun _ _ _ => rfl) dX11_undo_59 ?_
    refine wq_imul (q6.2 h8 e9).1 dX11_undo_62 ?_
    refine wq_aload_n 0 rfl rfl dX11_undo_63 ?_
    refine wq_getR fk_X11_7 tT_343 (fun _ _ _ => rfl) (sh_11_0 sh8) (by decide) dX11_undo_64 ?_
    refine wq_iconst (z := 0) (zlit rfl) dX11_undo_67 ?_
    refine wN_S (As := [vR 345, vI (213 * (gI h8 343 2)), vR 344, vI 0]) md_X11_copies ms_X11_copies lk_X11_306 rfl rfl (Nat.le_of_ble_eq_true rfl) (Nat.le_of_ble_eq_true rfl) (d' := d - 1) (by omega) dX11_undo_68 (q6.2 h8 e9).2 (fun v9 h11 q12 => ?_)
    obtain ⟨rfl, hS13, q12⟩ := q12
    refine wq_st (st' := []) rfl ?_
    refine wq_aload_n 0 rfl rfl dX11_undo_71 ?_
    refine wq_getI fk_X11_317 tT_343 (fun _ _ _ => rfl) dX11_undo_72 ?_
    exact wp_iret rfl dX11_undo_75 q12
  · refine wq_sipush (z := -1002) (zlit rfl) rfl dX11_undo_7 ?_
    exact wp_iret rfl dX11_undo_10 (hv.2 c1)
theorem dX11_redo_0 : decode cX11_redo 0 = .ok (.aload_n 0, 1) := by decide +kernel
theorem dX11_redo_1 : decode cX11_redo 1 = .ok (.getfield 320, 3) := by decide +kernel
theorem dX11_redo_4 : decode cX11_redo 4 = .ok (.ifCond .ne 7, 3) := by decide +kernel
theorem dX11_redo_7 : decode cX11_redo 7 = .ok (.sipush (-1002), 3) := by decide +kernel
theorem dX11_redo_10 : decode cX11_redo 10 = .ok (.ireturn, 1) := by decide +kernel
theorem dX11_redo_11 : decode cX11_redo 11 = .ok (.aload_n 0, 1) := by decide +kernel
theorem dX11_redo_12 : decode cX11_redo 12 = .ok (.dup, 1) := by decide +kernel
theorem dX11_redo_13 : decode cX11_redo 13 = .ok (.getfield 320, 3) := by decide +kernel
theorem dX11_redo_16 : decode cX11_redo 16 = .ok (.iconst 1, 1) := by decide +kernel
theorem dX11_redo_17 : decode cX11_redo 17 = .ok (.isub, 1) := by decide +kernel
theorem dX11_redo_18 : decode cX11_redo 18 = .ok (.putfield 320, 3) := by decide +kernel
theorem dX11_redo_21 : decode cX11_redo 21 = .ok (.aload_n 0, 1) := by decide +kernel
theorem dX11_redo_22 : decode cX11_redo 22 = .ok (.getfield 7, 3) := by decide +kernel
theorem dX11_redo_25 : decode cX11_redo 25 = .ok (.iconst 0, 1) := by decide +kernel
theorem dX11_redo_26 : decode cX11_redo 26 = .ok (.aload_n 0, 1) := by decide +kernel
theorem dX11_redo_27 : decode cX11_redo 27 = .ok (.getfield 13, 3) := by decide +kernel
theorem dX11_redo_30 : decode cX11_redo 30 = .ok (.sipush 213, 3) := by decide +kernel
theorem dX11_redo_33 : decode cX11_redo 33 = .ok (.aload_n 0, 1) := by decide +kernel
theorem dX11_redo_34 : decode cX11_redo 34 = .ok (.getfield 317, 3) := by decide +kernel
theorem dX11_redo_37 : decode cX11_redo 37 = .ok (.imul, 1) := by decide +kernel
theorem dX11_redo_38 : decode cX11_redo 38 = .ok (.invokestatic 306, 3) := by decide +kernel
theorem dX11_redo_41 : decode cX11_redo 41 = .ok (.aload_n 0, 1) := by decide +kernel
theorem dX11_redo_42 : decode cX11_redo 42 = .ok (.dup, 1) := by decide +kernel
theorem dX11_redo_43 : decode cX11_redo 43 = .ok (.getfield 317, 3) := by decide +kernel
theorem dX11_redo_46 : decode cX11_redo 46 = .ok (.iconst 1, 1) := by decide +kernel
theorem dX11_redo_47 : decode cX11_redo 47 = .ok (.iadd, 1) := by decide +kernel
theorem dX11_redo_48 : decode cX11_redo 48 = .ok (.putfield 317, 3) := by decide +kernel
theorem dX11_redo_51 : decode cX11_redo 51 = .ok (.aload_n 0, 1) := by decide +kernel
theorem dX11_redo_52 : decode cX11_redo 52 = .ok (.getfield 16, 3) := by decide +kernel
theorem dX11_redo_55 : decode cX11_redo 55 = .ok (.sipush 213, 3) := by decide +kernel
theorem dX11_redo_58 : decode cX11_redo 58 = .ok (.aload_n 0, 1) := by decide +kernel
theorem dX11_redo_59 : decode cX11_redo 59 = .ok (.getfield 320, 3) := by decide +kernel
theorem dX11_redo_62 : decode cX11_redo 62 = .ok (.imul, 1) := by decide +kernel
theorem dX11_redo_63 : decode cX11_redo 63 = .ok (.aload_n 0, 1) := by decide +kernel
theorem dX11_redo_64 : decode cX11_redo 64 = .ok (.getfield 7, 3) := by decide +kernel
theorem dX11_redo_67 : decode cX11_redo 67 = .ok (.iconst 0, 1) := by decide +kernel
theorem dX11_redo_68 : decode cX11_redo 68 = .ok (.invokestatic 306, 3) := by decide +kernel
theorem dX11_redo_71 : decode cX11_redo 71 = .ok (.aload_n 0, 1) := by decide +kernel
theorem dX11_redo_72 : decode cX11_redo 72 = .ok (.getfield 320, 3) := by decide +kernel
theorem dX11_redo_75 : decode cX11_redo 75 = .ok (.ireturn, 1) := by decide +kernel
theorem vc_X11_redo_0 {G : zG} {d : Nat} {Q : Option zV → zHp → Prop}  (h : zHp) (hS : zSh h) (hd : 1 ≤ d)  
    (hv : (((gI h 343 4) ≠ 0 → ((-2147483648 ≤ (gI h 343 4) - 1 ∧ (gI h 343 4) - 1 ≤ 2147483647) ∧ (∀ h2 : zHp, h2 = sI h 343 4 ((gI h 343 4) - 1) → ((-2147483648 ≤ 213 * (gI h2 343 2) ∧ 213 * (gI h2 343 2) ≤ 2147483647) ∧ (wpN G (d - 1) M_X11_copies 0 (zar 0 [vR 344, vI 0, vR 345, vI (213 * (gI h2 343 2))]) [] h2 (qV (fun h5 => zSh h5 ∧ ((-2147483648 ≤ (gI h5 343 2) + 1 ∧ (gI h5 343 2) + 1 ≤ 2147483647) ∧ (∀ h8 : zHp, h8 = sI h5 343 2 ((gI h5 343 2) + 1) → ((-2147483648 ≤ 213 * (gI h8 343 4) ∧ 213 * (gI h8 343 4) ≤ 2147483647) ∧ (wpN G (d - 1) M_X11_copies 0 (zar 0 [vR 346, vI (213 * (gI h8 343 4)), vR 344, vI 0]) [] h8 (qV (fun h11 => zSh h11 ∧ Q (some (vI (gI h11 343 4))) h11))))))))))))) ∧ ((gI h 343 4) = 0 → Q (some (vI (-1002))) h))) : wpN G d M_X11_redo 0 [(0, vR 343)] [] h Q := by
  refine wq_aload_n 0 rfl rfl dX11_redo_0 ?_
  refine wq_getI fk_X11_320 tT_343 (fun _ _ _ => rfl) dX11_redo_1 ?_
  refine wq_if_ne 11 rfl dX11_redo_4 (fun c1 => ?_) (fun c1 => ?_)
  · refine wq_aload_n 0 rfl rfl dX11_redo_11 ?_
    refine wq_dup rfl dX11_redo_12 ?_
    refine wq_getI fk_X11_320 tT_343 (fun _ _ _ => rfl) dX11_redo_13 ?_
    refine wq_iconst (z := 1) (zlit rfl) dX11_redo_16 ?_
    refine wq_isub (hv.1 c1).1 dX11_redo_17 ?_
    refine wq_putI fk_X11_320 tT_343 rfl rfl dX11_redo_18 ?_
    refine wq_toph (fun h2 e3 => ?_)
    have sh2 : zSh h2 := zSh_of e3 hS
    refine wq_aload_n 0 rfl rfl dX11_redo_21 ?_
    refine wq_getR fk_X11_7 tT_343 (fun _ _ _ => rfl) (sh_11_0 sh2) (by decide) dX11_redo_22 ?_
    refine wq_iconst (z := 0) (zlit rfl) dX11_redo_25 ?_
    refine wq_aload_n 0 rfl rfl dX11_redo_26 ?_
    refine wq_getR fk_X11_13 tT_343 (fun _ _ _ => rfl) (sh_11_1 sh2) (by decide) dX11_redo_27 ?_
    refine wq_sipush (z := 213) (zlit rfl) rfl dX11_redo_30 ?_
    refine wq_aload_n 0 rfl rfl dX11_redo_33 ?_
    refine wq_getI fk_X11_317 tT_343 (fun _ _ _ => rfl) dX11_redo_34 ?_
    refine wq_imul ((hv.1 c1).2 h2 e3).1 dX11_redo_37 ?_
    refine wN_S (As := [vR 344, vI 0, vR 345, vI (213 * (gI h2 343 2))]) md_X11_copies ms_X11_copies lk_X11_306 rfl rfl (Nat.le_of_ble_eq_true rfl) (Nat.le_of_ble_eq_true rfl) (d' := d - 1) (by omega) dX11_redo_38 ((hv.1 c1).2 h2 e3).2 (fun v9 h5 q6 => ?_)
    obtain ⟨rfl, hS7, q6⟩ := q6
    refine wq_st (st' := []) rfl ?_
    refine wq_aload_n 0 rfl rfl dX11_redo_41 ?_
    refine wq_dup rfl dX11_redo_42 ?_
    refine wq_getI fk_X11_317 tT_343 (fun _ _ _ => rfl) dX11_redo_43 ?_
    refine wq_iconst (z := 1) (zlit rfl) dX11_redo_46 ?_
    refine wq_iadd q6.1 dX11_redo_47 ?_
    refine wq_putI fk_X11_317 tT_343 rfl rfl dX11_redo_48 ?_
    refine wq_toph (fun h8 e9 => ?_)
    have sh8 : zSh h8 := zSh_of e9 hS7
    refine wq_aload_n 0 rfl rfl dX11_redo_51 ?_
    refine wq_getR fk_X11_16 tT_343 (fun _ _ _ => rfl) (sh_11_3 sh8) (by decide) dX11_redo_52 ?_
    refine wq_sipush (z := 213) (zlit rfl) rfl dX11_redo_55 ?_
    refine wq_aload_n 0 rfl rfl dX11_redo_58 ?_
    refine wq_getI fk_X11_320 tT_343 (fun _ _ _ => rfl) dX11_redo_59 ?_
    refine wq_imul (q6.2 h8 e9).1 dX11_redo_62 ?_
    refine wq_aload_n 0 rfl rfl dX11_redo_63 ?_
    refine wq_getR fk_X11_7 tT_343 (fun _ _ _ => rfl) (sh_11_0 sh8) (by decide) dX11_redo_64 ?_
    refine wq_iconst (z := 0) (zlit rfl) dX11_redo_67 ?_
    refine wN_S (As := [vR 346, vI (213 * (gI h8 343 4)), vR 344, vI 0]) md_X11_copies ms_X11_copies lk_X11_306 rfl rfl (Nat.le_of_ble_eq_true rfl) (Nat.le_of_ble_eq_true rfl) (d' := d - 1) (by omega) dX11_redo_68 (q6.2 h8 e9).2 (fun v9 h11 q12 => ?_)
    obtain ⟨rfl, hS13, q12⟩ := q12
    refine wq_st (st' := []) rfl ?_
    refine wq_aload_n 0 rfl rfl dX11_redo_71 ?_
    refine wq_getI fk_X11_320 tT_343 (fun _ _ _ => rfl) dX11_redo_72 ?_
    exact wp_iret rfl dX11_redo_75 q12
  · refine wq_sipush (z := -1002) (zlit rfl) rfl dX11_redo_7 ?_
    exact wp_iret rfl dX11_redo_10 (hv.2 c1)
theorem dX11_mark_0 : decode cX11_mark 0 = .ok (.iconst 0, 1) := by decide +kernel
theorem dX11_mark_1 : decode cX11_mark 1 = .ok (.istore_n 1, 1) := by decide +kernel
theorem dX11_mark_2 : decode cX11_mark 2 = .ok (.iload_n 1, 1) := by decide +kernel
theorem dX11_mark_3 : decode cX11_mark 3 = .ok (.aload_n 0, 1) := by decide +kernel
theorem dX11_mark_4 : decode cX11_mark 4 = .ok (.invokevirtual 218, 3) := by decide +kernel
theorem dX11_mark_7 : decode cX11_mark 7 = .ok (.if_icmp .ge 21, 3) := by decide +kernel
theorem dX11_mark_10 : decode cX11_mark 10 = .ok (.aload_n 0, 1) := by decide +kernel
theorem dX11_mark_11 : decode cX11_mark 11 = .ok (.getfield 25, 3) := by decide +kernel
theorem dX11_mark_14 : decode cX11_mark 14 = .ok (.iload_n 1, 1) := by decide +kernel
theorem dX11_mark_15 : decode cX11_mark 15 = .ok (.aload_n 0, 1) := by decide +kernel
theorem dX11_mark_16 : decode cX11_mark 16 = .ok (.getfield 7, 3) := by decide +kernel
theorem dX11_mark_19 : decode cX11_mark 19 = .ok (.iload_n 1, 1) := by decide +kernel
theorem dX11_mark_20 : decode cX11_mark 20 = .ok (.iaload, 1) := by decide +kernel
theorem dX11_mark_21 : decode cX11_mark 21 = .ok (.iastore, 1) := by decide +kernel
theorem dX11_mark_22 : decode cX11_mark 22 = .ok (.iinc 1 1, 3) := by decide +kernel
theorem dX11_mark_25 : decode cX11_mark 25 = .ok (.goto (-23), 3) := by decide +kernel
theorem dX11_mark_28 : decode cX11_mark 28 = .ok (.aload_n 0, 1) := by decide +kernel
theorem dX11_mark_29 : decode cX11_mark 29 = .ok (.aload_n 0, 1) := by decide +kernel
theorem dX11_mark_30 : decode cX11_mark 30 = .ok (.invokevirtual 218, 3) := by decide +kernel
theorem dX11_mark_33 : decode cX11_mark 33 = .ok (.putfield 366, 3) := by decide +kernel
theorem dX11_mark_36 : decode cX11_mark 36 = .ok (.aload_n 0, 1) := by decide +kernel
theorem dX11_mark_37 : decode cX11_mark 37 = .ok (.getfield 366, 3) := by decide +kernel
theorem dX11_mark_40 : decode cX11_mark 40 = .ok (.ireturn, 1) := by decide +kernel
theorem vc_X11_mark_0 {G : zG} {d : Nat} {Q : Option zV → zHp → Prop}  (h : zHp) (hS : zSh h) (hd : 1 ≤ d) (I_2 : Int → zHp → Prop) (hI_2 : ∀ (y1 : Int) (h' : zHp), I_2 y1 h' → wpN G d M_X11_mark 2 [(0, vR 343), (1, vI y1)] [] h' Q) 
    (hv : (zSh h → I_2 0 h)) : wpN G d M_X11_mark 0 [(0, vR 343)] [] h Q := by
  refine wq_iconst (z := 0) (zlit rfl) dX11_mark_0 ?_
  refine wq_istore_n (ls' := [(0, vR 343), (1, vI 0)]) rfl (by decide) rfl dX11_mark_1 ?_
  exact wq_pick [0, 1] rfl (hI_2 0 h (hv hS))
theorem vc_X11_mark_2 {G : zG} {d : Nat} {Q : Option zV → zHp → Prop} (y1 : Int) (h : zHp) (hS : zSh h) (hd : 1 ≤ d) (I_2 : Int → zHp → Prop) (hI_2 : ∀ (y1 : Int) (h' : zHp), I_2 y1 h' → wpN G d M_X11_mark 2 [(0, vR 343), (1, vI y1)] [] h' Q) 
    (hv : (wpN G (d - 1) M_X11_size 0 (zar 0 [vR 343]) [] h (qI (fun z1 h2 => zSh h2 ∧ ((z1 ≤ y1 → (wpN G (d - 1) M_X11_size 0 (zar 0 [vR 343]) [] h2 (qI (fun z6 h7 => zSh h7 ∧ (∀ h10 : zHp, h10 = sI h7 343 10 z6 → Q (some (vI (gI h10 343 10))) h10))))) ∧ (y1 < z1 → (((0 : Int) ≤ y1 ∧ y1 < ((213 : Nat) : Int)) ∧ (((0 : Int) ≤ y1 ∧ y1 < ((200 : Nat) : Int)) ∧ (∀ h12 : zHp, h12 = sI h2 349 y1.toNat (gI h2 344 y1.toNat) → ((-2147483648 ≤ y1 + 1 ∧ y1 + 1 ≤ 2147483647) ∧ ∀ x14 : Int, x14 = y1 + 1 → (zSh h12 → I_2 x14 h12))))))))))) : wpN G d M_X11_mark 2 [(0, vR 343), (1, vI y1)] [] h Q := by
  refine wq_iload_n 1 rfl rfl dX11_mark_2 ?_
  refine wq_aload_n 0 rfl rfl dX11_mark_3 ?_
  refine wN_V (As := []) vm_X11_size lk_X11_218 tT_343 rfl rfl (Nat.le_of_ble_eq_true rfl) (Nat.le_of_ble_eq_true rfl) (d' := d - 1) (by omega) dX11_mark_4 hv (fun v9 h2 q3 => ?_)
  obtain ⟨z1, rfl, hS4, q3⟩ := q3
  refine wq_st (st' := [vI z1, vI y1]) rfl ?_
  refine wq_icmp_ge 28 rfl dX11_mark_7 (fun c5 => ?_) (fun c5 => ?_)
  · refine wq_aload_n 0 rfl rfl dX11_mark_28 ?_
    refine wq_aload_n 0 rfl rfl dX11_mark_29 ?_
    refine wN_V (As := []) vm_X11_size lk_X11_218 tT_343 rfl rfl (Nat.le_of_ble_eq_true rfl) (Nat.le_of_ble_eq_true rfl) (d' := d - 1) (by omega) dX11_mark_30 (q3.1 c5) (fun v9 h7 q8 => ?_)
    obtain ⟨z6, rfl, hS9, q8⟩ := q8
    refine wq_st (st' := [vI z6, vR 343]) rfl ?_
    refine wq_putI fk_X11_366 tT_343 rfl rfl dX11_mark_33 ?_
    refine wq_toph (fun h10 e11 => ?_)
    have sh10 : zSh h10 := zSh_of e11 hS9
    refine wq_aload_n 0 rfl rfl dX11_mark_36 ?_
    refine wq_getI fk_X11_366 tT_343 (fun _ _ _ => rfl) dX11_mark_37 ?_
    exact wp_iret rfl dX11_mark_40 (q8 h10 e11)
  · refine wq_aload_n 0 rfl rfl dX11_mark_10 ?_
    refine wq_getR fk_X11_25 tT_343 (fun _ _ _ => rfl) (sh_11_9 hS4) (by decide) dX11_mark_11 ?_
    refine wq_iload_n 1 rfl rfl dX11_mark_14 ?_
    refine wq_aload_n 0 rfl rfl dX11_mark_15 ?_
    refine wq_getR fk_X11_7 tT_343 (fun _ _ _ => rfl) (sh_11_0 hS4) (by decide) dX11_mark_16 ?_
    refine wq_iload_n 1 rfl rfl dX11_mark_19 ?_
    refine wq_iald tT_344 (q3.2 c5).1.1 (q3.2 c5).1.2 dX11_mark_20 ?_
    refine wq_iast tT_349 (q3.2 c5).2.1.1 (q3.2 c5).2.1.2 dX11_mark_21 ?_
    refine wq_toph (fun h12 e13 => ?_)
    have sh12 : zSh h12 := zSh_of e13 hS4
    refine z_nm (y1 + 1) (fun x14 e15 => ?_)
    refine wq_iinc (y := x14) (ls' := [(0, vR 343), (1, vI x14)]) 1 rfl e15.symm (by rw [e15]; exact ((q3.2 c5).2.2 h12 e13).1) (by decide) rfl dX11_mark_22 ?_
    refine wq_goto 2 rfl dX11_mark_25 ?_
    exact wq_pick [0, 1] rfl (hI_2 x14 h12 ((((q3.2 c5).2.2 h12 e13).2 x14 e15) sh12))
theorem dX11_difference_0 : decode cX11_difference 0 = .ok (.iload_n 1, 1) := by decide +kernel
theorem dX11_difference_1 : decode cX11_difference 1 = .ok (.i2l, 1) := by decide +kernel
theorem dX11_difference_2 : decode cX11_difference 2 = .ok (.lconst 0, 1) := by decide +kernel
theorem dX11_difference_3 : decode cX11_difference 3 = .ok (.ldc2_w 221, 3) := by decide +kernel
theorem dX11_difference_6 : decode cX11_difference 6 = .ok (.invokestatic 91, 3) := by decide +kernel
theorem dX11_difference_9 : decode cX11_difference 9 = .ok (.ifCond .ne 7, 3) := by decide +kernel
theorem dX11_difference_12 : decode cX11_difference 12 = .ok (.sipush (-1001), 3) := by decide +kernel
theorem dX11_difference_15 : decode cX11_difference 15 = .ok (.ireturn, 1) := by decide +kernel
theorem dX11_difference_16 : decode cX11_difference 16 = .ok (.aload_n 0, 1) := by decide +kernel
theorem dX11_difference_17 : decode cX11_difference 17 = .ok (.invokevirtual 218, 3) := by decide +kernel
theorem dX11_difference_20 : decode cX11_difference 20 = .ok (.aload_n 0, 1) := by decide +kernel
theorem dX11_difference_21 : decode cX11_difference 21 = .ok (.getfield 366, 3) := by decide +kernel
theorem dX11_difference_24 : decode cX11_difference 24 = .ok (.invokestatic 363, 3) := by decide +kernel
theorem dX11_difference_27 : decode cX11_difference 27 = .ok (.istore_n 2, 1) := by decide +kernel
theorem dX11_difference_28 : decode cX11_difference 28 = .ok (.iload_n 1, 1) := by decide +kernel
theorem dX11_difference_29 : decode cX11_difference 29 = .ok (.istore_n 3, 1) := by decide +kernel
theorem dX11_difference_30 : decode cX11_difference 30 = .ok (.iload_n 3, 1) := by decide +kernel
theorem dX11_difference_31 : decode cX11_difference 31 = .ok (.iload_n 2, 1) := by decide +kernel
theorem dX11_difference_32 : decode cX11_difference 32 = .ok (.if_icmp .ge 26, 3) := by decide +kernel
theorem dX11_difference_35 : decode cX11_difference 35 = .ok (.aload_n 0, 1) := by decide +kernel
theorem dX11_difference_36 : decode cX11_difference 36 = .ok (.getfield 7, 3) := by decide +kernel
theorem dX11_difference_39 : decode cX11_difference 39 = .ok (.iload_n 3, 1) := by decide +kernel
theorem dX11_difference_40 : decode cX11_difference 40 = .ok (.iaload, 1) := by decide +kernel
theorem dX11_difference_41 : decode cX11_difference 41 = .ok (.aload_n 0, 1) := by decide +kernel
theorem dX11_difference_42 : decode cX11_difference 42 = .ok (.getfield 25, 3) := by decide +kernel
theorem dX11_difference_45 : decode cX11_difference 45 = .ok (.iload_n 3, 1) := by decide +kernel
theorem dX11_difference_46 : decode cX11_difference 46 = .ok (.iaload, 1) := by decide +kernel
theorem dX11_difference_47 : decode cX11_difference 47 = .ok (.if_icmp .eq 5, 3) := by decide +kernel
theorem dX11_difference_50 : decode cX11_difference 50 = .ok (.iload_n 3, 1) := by decide +kernel
theorem dX11_difference_51 : decode cX11_difference 51 = .ok (.ireturn, 1) := by decide +kernel
theorem dX11_difference_52 : decode cX11_difference 52 = .ok (.iinc 3 1, 3) := by decide +kernel
theorem dX11_difference_55 : decode cX11_difference 55 = .ok (.goto (-25), 3) := by decide +kernel
theorem dX11_difference_58 : decode cX11_difference 58 = .ok (.aload_n 0, 1) := by decide +kernel
theorem dX11_difference_59 : decode cX11_difference 59 = .ok (.invokevirtual 218, 3) := by decide +kernel
theorem dX11_difference_62 : decode cX11_difference 62 = .ok (.aload_n 0, 1) := by decide +kernel
theorem dX11_difference_63 : decode cX11_difference 63 = .ok (.getfield 366, 3) := by decide +kernel
theorem dX11_difference_66 : decode cX11_difference 66 = .ok (.iadd, 1) := by decide +kernel
theorem dX11_difference_67 : decode cX11_difference 67 = .ok (.iload_n 2, 1) := by decide +kernel
theorem dX11_difference_68 : decode cX11_difference 68 = .ok (.isub, 1) := by decide +kernel
theorem dX11_difference_69 : decode cX11_difference 69 = .ok (.istore_n 3, 1) := by decide +kernel
theorem dX11_difference_70 : decode cX11_difference 70 = .ok (.iload_n 1, 1) := by decide +kernel
theorem dX11_difference_71 : decode cX11_difference 71 = .ok (.iload_n 2, 1) := by decide +kernel
theorem dX11_difference_72 : decode cX11_difference 72 = .ok (.if_icmp .ge 7, 3) := by decide +kernel
theorem dX11_difference_75 : decode cX11_difference 75 = .ok (.iload_n 2, 1) := by decide +kernel
theorem dX11_difference_76 : decode cX11_difference 76 = .ok (.goto 4, 3) := by decide +kernel
theorem dX11_difference_79 : decode cX11_difference 79 = .ok (.iload_n 1, 1) := by decide +kernel
theorem dX11_difference_80 : decode cX11_difference 80 = .ok (.istore 4, 2) := by decide +kernel
theorem dX11_difference_82 : decode cX11_difference 82 = .ok (.iload 4, 2) := by decide +kernel
theorem dX11_difference_84 : decode cX11_difference 84 = .ok (.iload_n 3, 1) := by decide +kernel
theorem dX11_difference_85 : decode cX11_difference 85 = .ok (.if_icmp .ge 8, 3) := by decide +kernel
theorem dX11_difference_88 : decode cX11_difference 88 = .ok (.iload 4, 2) := by decide +kernel
theorem dX11_difference_90 : decode cX11_difference 90 = .ok (.goto 6, 3) := by decide +kernel
theorem dX11_difference_93 : decode cX11_difference 93 = .ok (.sipush (-1009), 3) := by decide +kernel
theorem dX11_difference_96 : decode cX11_difference 96 = .ok (.ireturn, 1) := by decide +kernel
theorem vc_X11_difference_0 {G : zG} {d : Nat} {Q : Option zV → zHp → Prop} (p1 : Int) (h : zHp) (hS : zSh h) (hd : 1 ≤ d) (I_30 : Int → Int → Int → zHp → Prop) (hI_30 : ∀ (y1 : Int) (y2 : Int) (y3 : Int) (h' : zHp), I_30 y1 y2 y3 h' → wpN G d M_X11_difference 30 [(0, vR 343), (1, vI y1), (2, vI y2), (3, vI y3)] [] h' Q) 
    (hv : (wpN G (d - 1) M_X11_in 0 (zar 0 [vL p1, vL 0, vL 200]) [] h (qI (fun z1 h2 => zSh h2 ∧ ((z1 ≠ 0 → (wpN G (d - 1) M_X11_size 0 (zar 0 [vR 343]) [] h2 (qI (fun z6 h7 => zSh h7 ∧ (wpN G (d - 1) M_X11_less 0 (zar 0 [vI z6, vI (gI h7 343 10)]) [] h7 (qI (fun z10 h11 => zSh h11 ∧ (zSh h11 → I_30 p1 z10 p1 h11)))))))) ∧ (z1 = 0 → Q (some (vI (-1001))) h2)))))) : wpN G d M_X11_difference 0 [(0, vR 343), (1, vI p1)] [] h Q := by
  refine wq_iload_n 1 rfl rfl dX11_difference_0 ?_
  refine wq_i2l dX11_difference_1 ?_
  refine wq_lconst (z := 0) (zlitL rfl) rfl dX11_difference_2 ?_
  refine wq_ldc2_w (z := 200) (zlitL rfl) kc_X11_221 dX11_difference_3 ?_
  refine wN_S (As := [vL p1, vL 0, vL 200]) md_X11_in ms_X11_in lk_X11_91 rfl rfl (Nat.le_of_ble_eq_true rfl) (Nat.le_of_ble_eq_true rfl) (d' := d - 1) (by omega) dX11_difference_6 hv (fun v9 h2 q3 => ?_)
  obtain ⟨z1, rfl, hS4, q3⟩ := q3
  refine wq_st (st' := [vI z1]) rfl ?_
  refine wq_if_ne 16 rfl dX11_difference_9 (fun c5 => ?_) (fun c5 => ?_)
  · refine wq_aload_n 0 rfl rfl dX11_difference_16 ?_
    refine wN_V (As := []) vm_X11_size lk_X11_218 tT_343 rfl rfl (Nat.le_of_ble_eq_true rfl) (Nat.le_of_ble_eq_true rfl) (d' := d - 1) (by omega) dX11_difference_17 (q3.1 c5) (fun v9 h7 q8 => ?_)
    obtain ⟨z6, rfl, hS9, q8⟩ := q8
    refine wq_st (st' := [vI z6]) rfl ?_
    refine wq_aload_n 0 rfl rfl dX11_difference_20 ?_
    refine wq_getI fk_X11_366 tT_343 (fun _ _ _ => rfl) dX11_difference_21 ?_
    refine wN_S (As := [vI z6, vI (gI h7 343 10)]) md_X11_less ms_X11_less lk_X11_363 rfl rfl (Nat.le_of_ble_eq_true rfl) (Nat.le_of_ble_eq_true rfl) (d' := d - 1) (by omega) dX11_difference_24 q8 (fun v9 h11 q12 => ?_)
    obtain ⟨z10, rfl, hS13, q12⟩ := q12
    refine wq_st (st' := [vI z10]) rfl ?_
    refine wq_istore_n (ls' := [(0, vR 343), (1, vI p1), (2, vI z10)]) rfl (by decide) rfl dX11_difference_27 ?_
    refine wq_iload_n 1 rfl rfl dX11_difference_28 ?_
    refine wq_istore_n (ls' := [(0, vR 343), (1, vI p1), (2, vI z10), (3, vI p1)]) rfl (by decide) rfl dX11_difference_29 ?_
    exact wq_pick [0, 1, 2, 3] rfl (hI_30 p1 z10 p1 h11 (q12 hS13))
  · refine wq_sipush (z := -1001) (zlit rfl) rfl dX11_difference_12 ?_
    exact wp_iret rfl dX11_difference_15 (q3.2 c5)
theorem vc_X11_difference_30 {G : zG} {d : Nat} {Q : Option zV → zHp → Prop} (y1 : Int) (y2 : Int) (y3 : Int) (h : zHp) (hS : zSh h) (hd : 1 ≤ d) (I_30 : Int → Int → Int → zHp → Prop) (hI_30 : ∀ (y1 : Int) (y2 : Int) (y3 : Int) (h' : zHp), I_30 y1 y2 y3 h' → wpN G d M_X11_difference 30 [(0, vR 343), (1, vI y1), (2, vI y2), (3, vI y3)] [] h' Q) 
    (hv : ((y2 ≤ y3 → (wpN G (d - 1) M_X11_size 0 (zar 0 [vR 343]) [] h (qI (fun z2 h3 => zSh h3 ∧ ((-2147483648 ≤ z2 + (gI h3 343 10) ∧ z2 + (gI h3 343 10) ≤ 2147483647) ∧ ((-2147483648 ≤ (z2 + (gI h3 343 10)) - y2 ∧ (z2 + (gI h3 343 10)) - y2 ≤ 2147483647) ∧ (∀ x6 : Int, x6 = ((z2 + (gI h3 343 10)) - y2) → ((y2 ≤ y1 → ((x6 ≤ y1 → Q (some (vI (-1009))) h3) ∧ (y1 < x6 → Q (some (vI y1)) h3))) ∧ (y1 < y2 → ((x6 ≤ y2 → Q (some (vI (-1009))) h3) ∧ (y2 < x6 → Q (some (vI y2)) h3))))))))))) ∧ (y3 < y2 → (((0 : Int) ≤ y3 ∧ y3 < ((213 : Nat) : Int)) ∧ (((0 : Int) ≤ y3 ∧ y3 < ((200 : Nat) : Int)) ∧ (((gI h 344 y3.toNat) = (gI h 349 y3.toNat) → ((-2147483648 ≤ y3 + 1 ∧ y3 + 1 ≤ 2147483647) ∧ ∀ x12 : Int, x12 = y3 + 1 → (zSh h → I_30 y1 y2 x12 h))) ∧ ((gI h 344 y3.toNat) ≠ (gI h 349 y3.toNat) → Q (some (vI y3)) h))))))) : wpN G d M_X11_difference 30 [(0, vR 343), (1, vI y1), (2, vI y2), (3, vI y3)] [] h Q := by
  refine wq_iload_n 3 rfl rfl dX11_difference_30 ?_
  refine wq_iload_n 2 rfl rfl dX11_difference_31 ?_
  refine wq_icmp_ge 58 rfl dX11_difference_32 (fun c1 => ?_) (fun c1 => ?_)
  · refine wq_aload_n 0 rfl rfl dX11_difference_58 ?_
    refine wN_V (As := []) vm_X11_size lk_X11_218 tT_343 rfl rfl (Nat.le_of_ble_eq_true rfl) (Nat.le_of_ble_eq_true rfl) (d' := d - 1) (by omega) dX11_difference_59 (hv.1 c1) (fun v9 h3 q4 => ?_)
    obtain ⟨z2, rfl, hS5, q4⟩ := q4
    refine wq_st (st' := [vI z2]) rfl ?_
    refine wq_aload_n 0 rfl rfl dX11_difference_62 ?_
    refine wq_getI fk_X11_366 tT_343 (fun _ _ _ => rfl) dX11_difference_63 ?_
    refine wq_iadd q4.1 dX11_difference_66 ?_
    refine wq_iload_n 2 rfl rfl dX11_difference_67 ?_
    refine wq_isub q4.2.1 dX11_difference_68 ?_
    refine wq_topI (fun x6 e7 => ?_)
    refine wq_istore_n (ls' := [(0, vR 343), (1, vI y1), (2, vI y2), (3, vI x6)]) rfl (by decide) rfl dX11_difference_69 ?_
    refine wq_iload_n 1 rfl rfl dX11_difference_70 ?_
    refine wq_iload_n 2 rfl rfl dX11_difference_71 ?_
    refine wq_icmp_ge 79 rfl dX11_difference_72 (fun c8 => ?_) (fun c8 => ?_)
    · refine wq_iload_n 1 rfl rfl dX11_difference_79 ?_
      refine wq_istore (ls' := [(0, vR 343), (1, vI y1), (2, vI y2), (3, vI x6), (4, vI y1)]) (by decide) rfl dX11_difference_80 ?_
      refine wq_iload 4 rfl dX11_difference_82 ?_
      refine wq_iload_n 3 rfl rfl dX11_difference_84 ?_
      refine wq_icmp_ge 93 rfl dX11_difference_85 (fun c9 => ?_) (fun c9 => ?_)
      · refine wq_sipush (z := -1009) (zlit rfl) rfl dX11_difference_93 ?_
        exact wp_iret rfl dX11_difference_96 (((q4.2.2 x6 e7).1 c8).1 c9)
      · refine wq_iload 4 rfl dX11_difference_88 ?_
        refine wq_goto 96 rfl dX11_difference_90 ?_
        exact wp_iret rfl dX11_difference_96 (((q4.2.2 x6 e7).1 c8).2 c9)
    · refine wq_iload_n 2 rfl rfl dX11_difference_75 ?_
      refine wq_goto 80 rfl dX11_difference_76 ?_
      refine wq_istore (ls' := [(0, vR 343), (1, vI y1), (2, vI y2), (3, vI x6), (4, vI y2)]) (by decide) rfl dX11_difference_80 ?_
      refine wq_iload 4 rfl dX11_difference_82 ?_
      refine wq_iload_n 3 rfl rfl dX11_difference_84 ?_
      refine wq_icmp_ge 93 rfl dX11_difference_85 (fun c10 => ?_) (fun c10 => ?_)
      · refine wq_sipush (z := -1009) (zlit rfl) rfl dX11_difference_93 ?_
        exact wp_iret rfl dX11_difference_96 (((q4.2.2 x6 e7).2 c8).1 c10)
      · refine wq_iload 4 rfl dX11_difference_88 ?_
        refine wq_goto 96 rfl dX11_difference_90 ?_
        exact wp_iret rfl dX11_difference_96 (((q4.2.2 x6 e7).2 c8).2 c10)
  · refine wq_aload_n 0 rfl rfl dX11_difference_35 ?_
    refine wq_getR fk_X11_7 tT_343 (fun _ _ _ => rfl) (sh_11_0 hS) (by decide) dX11_difference_36 ?_
    refine wq_iload_n 3 rfl rfl dX11_difference_39 ?_
    refine wq_iald tT_344 (hv.2 c1).1.1 (hv.2 c1).1.2 dX11_difference_40 ?_
    refine wq_aload_n 0 rfl rfl dX11_difference_41 ?_
    refine wq_getR fk_X11_25 tT_343 (fun _ _ _ => rfl) (sh_11_9 hS) (by decide) dX11_difference_42 ?_
    refine wq_iload_n 3 rfl rfl dX11_difference_45 ?_
    refine wq_iald tT_349 (hv.2 c1).2.1.1 (hv.2 c1).2.1.2 dX11_difference_46 ?_
    refine wq_icmp_eq 52 rfl dX11_difference_47 (fun c11 => ?_) (fun c11 => ?_)
    · refine z_nm (y3 + 1) (fun x12 e13 => ?_)
      refine wq_iinc (y := x12) (ls' := [(0, vR 343), (1, vI y1), (2, vI y2), (3, vI x12)]) 3 rfl e13.symm (by rw [e13]; exact ((hv.2 c1).2.2.1 c11).1) (by decide) rfl dX11_difference_52 ?_
      refine wq_goto 30 rfl dX11_difference_55 ?_
      exact wq_pick [0, 1, 2, 3] rfl (hI_30 y1 y2 x12 h ((((hv.2 c1).2.2.1 c11).2 x12 e13) hS))
    · refine wq_iload_n 3 rfl rfl dX11_difference_50 ?_
      exact wp_iret rfl dX11_difference_51 ((hv.2 c1).2.2.2 c11)
theorem dX11_distance_0 : decode cX11_distance 0 = .ok (.iconst 0, 1) := by decide +kernel
theorem dX11_distance_1 : decode cX11_distance 1 = .ok (.istore_n 1, 1) := by decide +kernel
theorem dX11_distance_2 : decode cX11_distance 2 = .ok (.iload_n 1, 1) := by decide +kernel
theorem dX11_distance_3 : decode cX11_distance 3 = .ok (.aload_n 0, 1) := by decide +kernel
theorem dX11_distance_4 : decode cX11_distance 4 = .ok (.invokevirtual 218, 3) := by decide +kernel
theorem dX11_distance_7 : decode cX11_distance 7 = .ok (.if_icmp .gt 16, 3) := by decide +kernel
theorem dX11_distance_10 : decode cX11_distance 10 = .ok (.aload_n 0, 1) := by decide +kernel
theorem dX11_distance_11 : decode cX11_distance 11 = .ok (.getfield 86, 3) := by decide +kernel
theorem dX11_distance_14 : decode cX11_distance 14 = .ok (.iload_n 1, 1) := by decide +kernel
theorem dX11_distance_15 : decode cX11_distance 15 = .ok (.iload_n 1, 1) := by decide +kernel
theorem dX11_distance_16 : decode cX11_distance 16 = .ok (.iastore, 1) := by decide +kernel
theorem dX11_distance_17 : decode cX11_distance 17 = .ok (.iinc 1 1, 3) := by decide +kernel
theorem dX11_distance_20 : decode cX11_distance 20 = .ok (.goto (-18), 3) := by decide +kernel
theorem dX11_distance_23 : decode cX11_distance 23 = .ok (.iconst 1, 1) := by decide +kernel
theorem dX11_distance_24 : decode cX11_distance 24 = .ok (.istore_n 1, 1) := by decide +kernel
theorem dX11_distance_25 : decode cX11_distance 25 = .ok (.iload_n 1, 1) := by decide +kernel
theorem dX11_distance_26 : decode cX11_distance 26 = .ok (.aload_n 0, 1) := by decide +kernel
theorem dX11_distance_27 : decode cX11_distance 27 = .ok (.getfield 366, 3) := by decide +kernel
theorem dX11_distance_30 : decode cX11_distance 30 = .ok (.if_icmp .gt 104, 3) := by decide +kernel
theorem dX11_distance_33 : decode cX11_distance 33 = .ok (.aload_n 0, 1) := by decide +kernel
theorem dX11_distance_34 : decode cX11_distance 34 = .ok (.getfield 86, 3) := by decide +kernel
theorem dX11_distance_37 : decode cX11_distance 37 = .ok (.iconst 0, 1) := by decide +kernel
theorem dX11_distance_38 : decode cX11_distance 38 = .ok (.iaload, 1) := by decide +kernel
theorem dX11_distance_39 : decode cX11_distance 39 = .ok (.istore_n 2, 1) := by decide +kernel
theorem dX11_distance_40 : decode cX11_distance 40 = .ok (.aload_n 0, 1) := by decide +kernel
theorem dX11_distance_41 : decode cX11_distance 41 = .ok (.getfield 86, 3) := by decide +kernel
theorem dX11_distance_44 : decode cX11_distance 44 = .ok (.iconst 0, 1) := by decide +kernel
theorem dX11_distance_45 : decode cX11_distance 45 = .ok (.iload_n 1, 1) := by decide +kernel
theorem dX11_distance_46 : decode cX11_distance 46 = .ok (.iastore, 1) := by decide +kernel
theorem dX11_distance_47 : decode cX11_distance 47 = .ok (.iconst 1, 1) := by decide +kernel
theorem dX11_distance_48 : decode cX11_distance 48 = .ok (.istore_n 3, 1) := by decide +kernel
theorem dX11_distance_49 : decode cX11_distance 49 = .ok (.iload_n 3, 1) := by decide +kernel
theorem dX11_distance_50 : decode cX11_distance 50 = .ok (.aload_n 0, 1) := by decide +kernel
theorem dX11_distance_51 : decode cX11_distance 51 = .ok (.invokevirtual 218, 3) := by decide +kernel
theorem dX11_distance_54 : decode cX11_distance 54 = .ok (.if_icmp .gt 74, 3) := by decide +kernel
theorem dX11_distance_57 : decode cX11_distance 57 = .ok (.iload_n 2, 1) := by decide +kernel
theorem dX11_distance_58 : decode cX11_distance 58 = .ok (.aload_n 0, 1) := by decide +kernel
theorem dX11_distance_59 : decode cX11_distance 59 = .ok (.getfield 25, 3) := by decide +kernel
theorem dX11_distance_62 : decode cX11_distance 62 = .ok (.iload_n 1, 1) := by decide +kernel
theorem dX11_distance_63 : decode cX11_distance 63 = .ok (.iconst 1, 1) := by decide +kernel
theorem dX11_distance_64 : decode cX11_distance 64 = .ok (.isub, 1) := by decide +kernel
theorem dX11_distance_65 : decode cX11_distance 65 = .ok (.iaload, 1) := by decide +kernel
theorem dX11_distance_66 : decode cX11_distance 66 = .ok (.aload_n 0, 1) := by decide +kernel
theorem dX11_distance_67 : decode cX11_distance 67 = .ok (.getfield 7, 3) := by decide +kernel
theorem dX11_distance_70 : decode cX11_distance 70 = .ok (.iload_n 3, 1) := by decide +kernel
theorem dX11_distance_71 : decode cX11_distance 71 = .ok (.iconst 1, 1) := by decide +kernel
theorem dX11_distance_72 : decode cX11_distance 72 = .ok (.isub, 1) := by decide +kernel
theorem dX11_distance_73 : decode cX11_distance 73 = .ok (.iaload, 1) := by decide +kernel
theorem dX11_distance_74 : decode cX11_distance 74 = .ok (.if_icmp .ne 7, 3) := by decide +kernel
theorem dX11_distance_77 : decode cX11_distance 77 = .ok (.iconst 0, 1) := by decide +kernel
theorem dX11_distance_78 : decode cX11_distance 78 = .ok (.goto 4, 3) := by decide +kernel
theorem dX11_distance_81 : decode cX11_distance 81 = .ok (.iconst 1, 1) := by decide +kernel
theorem dX11_distance_82 : decode cX11_distance 82 = .ok (.iadd, 1) := by decide +kernel
theorem dX11_distance_83 : decode cX11_distance 83 = .ok (.istore 4, 2) := by decide +kernel
theorem dX11_distance_85 : decode cX11_distance 85 = .ok (.aload_n 0, 1) := by decide +kernel
theorem dX11_distance_86 : decode cX11_distance 86 = .ok (.getfield 86, 3) := by decide +kernel
theorem dX11_distance_89 : decode cX11_distance 89 = .ok (.iload_n 3, 1) := by decide +kernel
theorem dX11_distance_90 : decode cX11_distance 90 = .ok (.iaload, 1) := by decide +kernel
theorem dX11_distance_91 : decode cX11_distance 91 = .ok (.istore_n 2, 1) := by decide +kernel
theorem dX11_distance_92 : decode cX11_distance 92 = .ok (.aload_n 0, 1) := by decide +kernel
theorem dX11_distance_93 : decode cX11_distance 93 = .ok (.getfield 86, 3) := by decide +kernel
theorem dX11_distance_96 : decode cX11_distance 96 = .ok (.iload_n 3, 1) := by decide +kernel
theorem dX11_distance_97 : decode cX11_distance 97 = .ok (.iload 4, 2) := by decide +kernel
theorem dX11_distance_99 : decode cX11_distance 99 = .ok (.iconst 1, 1) := by decide +kernel
theorem dX11_distance_100 : decode cX11_distance 100 = .ok (.aload_n 0, 1) := by decide +kernel
theorem dX11_distance_101 : decode cX11_distance 101 = .ok (.getfield 86, 3) := by decide +kernel
theorem dX11_distance_104 : decode cX11_distance 104 = .ok (.iload_n 3, 1) := by decide +kernel
theorem dX11_distance_105 : decode cX11_distance 105 = .ok (.iaload, 1) := by decide +kernel
theorem dX11_distance_106 : decode cX11_distance 106 = .ok (.aload_n 0, 1) := by decide +kernel
theorem dX11_distance_107 : decode cX11_distance 107 = .ok (.getfield 86, 3) := by decide +kernel
theorem dX11_distance_110 : decode cX11_distance 110 = .ok (.iload_n 3, 1) := by decide +kernel
theorem dX11_distance_111 : decode cX11_distance 111 = .ok (.iconst 1, 1) := by decide +kernel
theorem dX11_distance_112 : decode cX11_distance 112 = .ok (.isub, 1) := by decide +kernel
theorem dX11_distance_113 : decode cX11_distance 113 = .ok (.iaload, 1) := by decide +kernel
theorem dX11_distance_114 : decode cX11_distance 114 = .ok (.invokestatic 363, 3) := by decide +kernel
theorem dX11_distance_117 : decode cX11_distance 117 = .ok (.iadd, 1) := by decide +kernel
theorem dX11_distance_118 : decode cX11_distance 118 = .ok (.invokestatic 363, 3) := by decide +kernel
theorem dX11_distance_121 : decode cX11_distance 121 = .ok (.iastore, 1) := by decide +kernel
theorem dX11_distance_122 : decode cX11_distance 122 = .ok (.iinc 3 1, 3) := by decide +kernel
theorem dX11_distance_125 : decode cX11_distance 125 = .ok (.goto (-76), 3) := by decide +kernel
theorem dX11_distance_128 : decode cX11_distance 128 = .ok (.iinc 1 1, 3) := by decide +kernel
theorem dX11_distance_131 : decode cX11_distance 131 = .ok (.goto (-106), 3) := by decide +kernel
theorem dX11_distance_134 : decode cX11_distance 134 = .ok (.aload_n 0, 1) := by decide +kernel
theorem dX11_distance_135 : decode cX11_distance 135 = .ok (.getfield 86, 3) := by decide +kernel
theorem dX11_distance_138 : decode cX11_distance 138 = .ok (.aload_n 0, 1) := by decide +kernel
theorem dX11_distance_139 : decode cX11_distance 139 = .ok (.invokevirtual 218, 3) := by decide +kernel
theorem dX11_distance_142 : decode cX11_distance 142 = .ok (.iaload, 1) := by decide +kernel
theorem dX11_distance_143 : decode cX11_distance 143 = .ok (.ireturn, 1) := by decide +kernel
theorem vc_X11_distance_0 {G : zG} {d : Nat} {Q : Option zV → zHp → Prop}  (h : zHp) (hS : zSh h) (hd : 1 ≤ d) (I_2 : Int → zHp → Prop) (hI_2 : ∀ (y1 : Int) (h' : zHp), I_2 y1 h' → wpN G d M_X11_distance 2 [(0, vR 343), (1, vI y1)] [] h' Q) 
    (hv : (zSh h → I_2 0 h)) : wpN G d M_X11_distance 0 [(0, vR 343)] [] h Q := by
  refine wq_iconst (z := 0) (zlit rfl) dX11_distance_0 ?_
  refine wq_istore_n (ls' := [(0, vR 343), (1, vI 0)]) rfl (by decide) rfl dX11_distance_1 ?_
  exact wq_pick [0, 1] rfl (hI_2 0 h (hv hS))
theorem vc_X11_distance_2 {G : zG} {d : Nat} {Q : Option zV → zHp → Prop} (y1 : Int) (h : zHp) (hS : zSh h) (hd : 1 ≤ d) (I_2 : Int → zHp → Prop) (hI_2 : ∀ (y1 : Int) (h' : zHp), I_2 y1 h' → wpN G d M_X11_distance 2 [(0, vR 343), (1, vI y1)] [] h' Q) (I_25 : Int → zHp → Prop) (hI_25 : ∀ (y1 : Int) (h' : zHp), I_25 y1 h' → wpN G d M_X11_distance 25 [(0, vR 343), (1, vI y1)] [] h' Q) 
    (hv : (wpN G (d - 1) M_X11_size 0 (zar 0 [vR 343]) [] h (qI (fun z1 h2 => zSh h2 ∧ ((z1 < y1 → (zSh h2 → I_25 1 h2)) ∧ (y1 ≤ z1 → (((0 : Int) ≤ y1 ∧ y1 < ((201 : Nat) : Int)) ∧ (∀ h6 : zHp, h6 = sI h2 369 y1.toNat y1 → ((-2147483648 ≤ y1 + 1 ∧ y1 + 1 ≤ 2147483647) ∧ ∀ x8 : Int, x8 = y1 + 1 → (zSh h6 → I_2 x8 h6)))))))))) : wpN G d M_X11_distance 2 [(0, vR 343), (1, vI y1)] [] h Q := by
  refine wq_iload_n 1 rfl rfl dX11_distance_2 ?_
  refine wq_aload_n 0 rfl rfl dX11_distance_3 ?_
  refine wN_V (As := []) vm_X11_size lk_X11_218 tT_343 rfl rfl (Nat.le_of_ble_eq_true rfl) (Nat.le_of_ble_eq_true rfl) (d' := d - 1) (by omega) dX11_distance_4 hv (fun v9 h2 q3 => ?_)
  obtain ⟨z1, rfl, hS4, q3⟩ := q3
  refine wq_st (st' := [vI z1, vI y1]) rfl ?_
  refine wq_icmp_gt 23 rfl dX11_distance_7 (fun c5 => ?_) (fun c5 => ?_)
  · refine wq_iconst (z := 1) (zlit rfl) dX11_distance_23 ?_
    refine wq_istore_n (ls' := [(0, vR 343), (1, vI 1)]) rfl (by decide) rfl dX11_distance_24 ?_
    exact wq_pick [0, 1] rfl (hI_25 1 h2 ((q3.1 c5) hS4))
  · refine wq_aload_n 0 rfl rfl dX11_distance_10 ?_
    refine wq_getR fk_X11_86 tT_343 (fun _ _ _ => rfl) (sh_11_43 hS4) (by decide) dX11_distance_11 ?_
    refine wq_iload_n 1 rfl rfl dX11_distance_14 ?_
    refine wq_iload_n 1 rfl rfl dX11_distance_15 ?_
    refine wq_iast tT_369 (q3.2 c5).1.1 (q3.2 c5).1.2 dX11_distance_16 ?_
    refine wq_toph (fun h6 e7 => ?_)
    have sh6 : zSh h6 := zSh_of e7 hS4
    refine z_nm (y1 + 1) (fun x8 e9 => ?_)
    refine wq_iinc (y := x8) (ls' := [(0, vR 343), (1, vI x8)]) 1 rfl e9.symm (by rw [e9]; exact ((q3.2 c5).2 h6 e7).1) (by decide) rfl dX11_distance_17 ?_
    refine wq_goto 2 rfl dX11_distance_20 ?_
    exact wq_pick [0, 1] rfl (hI_2 x8 h6 ((((q3.2 c5).2 h6 e7).2 x8 e9) sh6))
theorem vc_X11_distance_25 {G : zG} {d : Nat} {Q : Option zV → zHp → Prop} (y1 : Int) (h : zHp) (hS : zSh h) (hd : 1 ≤ d) (I_49 : Int → Int → Int → zHp → Prop) (hI_49 : ∀ (y1 : Int) (y2 : Int) (y3 : Int) (h' : zHp), I_49 y1 y2 y3 h' → wpN G d M_X11_distance 49 [(0, vR 343), (1, vI y1), (2, vI y2), (3, vI y3)] [] h' Q) 
    (hv : (((gI h 343 10) < y1 → (wpN G (d - 1) M_X11_size 0 (zar 0 [vR 343]) [] h (qI (fun z2 h3 => zSh h3 ∧ (((0 : Int) ≤ z2 ∧ z2 < ((201 : Nat) : Int)) ∧ Q (some (vI (gI h3 369 z2.toNat))) h3))))) ∧ (y1 ≤ (gI h 343 10) → (∀ x6 : Int, x6 = (gI h 369 0) → (∀ h8 : zHp, h8 = sI h 369 0 y1 → (zSh h8 → I_49 y1 x6 1 h8)))))) : wpN G d M_X11_distance 25 [(0, vR 343), (1, vI y1)] [] h Q := by
  refine wq_iload_n 1 rfl rfl dX11_distance_25 ?_
  refine wq_aload_n 0 rfl rfl dX11_distance_26 ?_
  refine wq_getI fk_X11_366 tT_343 (fun _ _ _ => rfl) dX11_distance_27 ?_
  refine wq_icmp_gt 134 rfl dX11_distance_30 (fun c1 => ?_) (fun c1 => ?_)
  · refine wq_aload_n 0 rfl rfl dX11_distance_134 ?_
    refine wq_getR fk_X11_86 tT_343 (fun _ _ _ => rfl) (sh_11_43 hS) (by decide) dX11_distance_135 ?_
    refine wq_aload_n 0 rfl rfl dX11_distance_138 ?_
    refine wN_V (As := []) vm_X11_size lk_X11_218 tT_343 rfl rfl (Nat.le_of_ble_eq_true rfl) (Nat.le_of_ble_eq_true rfl) (d' := d - 1) (by omega) dX11_distance_139 (hv.1 c1) (fun v9 h3 q4 => ?_)
    obtain ⟨z2, rfl, hS5, q4⟩ := q4
    refine wq_st (st' := [vI z2, vR 369]) rfl ?_
    refine wq_iald tT_369 q4.1.1 q4.1.2 dX11_distance_142 ?_
    exact wp_iret rfl dX11_distance_143 q4.2
  · refine wq_aload_n 0 rfl rfl dX11_distance_33 ?_
    refine wq_getR fk_X11_86 tT_343 (fun _ _ _ => rfl) (sh_11_43 hS) (by decide) dX11_distance_34 ?_
    refine wq_iconst (z := 0) (zlit rfl) dX11_distance_37 ?_
    refine wq_iald tT_369 (by decide) (by decide) dX11_distance_38 ?_
    refine wq_topI (fun x6 e7 => ?_)
    refine wq_istore_n (ls' := [(0, vR 343), (1, vI y1), (2, vI x6)]) rfl (by decide) rfl dX11_distance_39 ?_
    refine wq_aload_n 0 rfl rfl dX11_distance_40 ?_
    refine wq_getR fk_X11_86 tT_343 (fun _ _ _ => rfl) (sh_11_43 hS) (by decide) dX11_distance_41 ?_
    refine wq_iconst (z := 0) (zlit rfl) dX11_distance_44 ?_
    refine wq_iload_n 1 rfl rfl dX11_distance_45 ?_
    refine wq_iast tT_369 (by decide) (by decide) dX11_distance_46 ?_
    refine wq_toph (fun h8 e9 => ?_)
    have sh8 : zSh h8 := zSh_of e9 hS
    refine wq_iconst (z := 1) (zlit rfl) dX11_distance_47 ?_
    refine wq_istore_n (ls' := [(0, vR 343), (1, vI y1), (2, vI x6), (3, vI 1)]) rfl (by decide) rfl dX11_distance_48 ?_
    exact wq_pick [0, 1, 2, 3] rfl (hI_49 y1 x6 1 h8 ((((hv.2 c1) x6 e7) h8 e9) sh8))
theorem vc_X11_distance_49 {G : zG} {d : Nat} {Q : Option zV → zHp → Prop} (y1 : Int) (y2 : Int) (y3 : Int) (h : zHp) (hS : zSh h) (hd : 1 ≤ d) (I_25 : Int → zHp → Prop) (hI_25 : ∀ (y1 : Int) (h' : zHp), I_25 y1 h' → wpN G d M_X11_distance 25 [(0, vR 343), (1, vI y1)] [] h' Q) (I_49 : Int → Int → Int → zHp → Prop) (hI_49 : ∀ (y1 : Int) (y2 : Int) (y3 : Int) (h' : zHp), I_49 y1 y2 y3 h' → wpN G d M_X11_distance 49 [(0, vR 343), (1, vI y1), (2, vI y2), (3, vI y3)] [] h' Q) 
    (hv : (wpN G (d - 1) M_X11_size 0 (zar 0 [vR 343]) [] h (qI (fun z1 h2 => zSh h2 ∧ ((z1 < y3 → ((-2147483648 ≤ y1 + 1 ∧ y1 + 1 ≤ 2147483647) ∧ ∀ x6 : Int, x6 = y1 + 1 → (zSh h2 → I_25 x6 h2))) ∧ (y3 ≤ z1 → ((-2147483648 ≤ y1 - 1 ∧ y1 - 1 ≤ 2147483647) ∧ (((0 : Int) ≤ (y1 - 1) ∧ (y1 - 1) < ((200 : Nat) : Int)) ∧ ((-2147483648 ≤ y3 - 1 ∧ y3 - 1 ≤ 2147483647) ∧ (((0 : Int) ≤ (y3 - 1) ∧ (y3 - 1) < ((213 : Nat) : Int)) ∧ (((gI h2 349 (y1 - 1).toNat) ≠ (gI h2 344 (y3 - 1).toNat) → ((-2147483648 ≤ y2 + 1 ∧ y2 + 1 ≤ 2147483647) ∧ (∀ x9 : Int, x9 = (y2 + 1) → (((0 : Int) ≤ y3 ∧ y3 < ((201 : Nat) : Int)) ∧ (∀ x11 : Int, x11 = (gI h2 369 y3.toNat) → (((0 : Int) ≤ y3 ∧ y3 < ((201 : Nat) : Int)) ∧ ((-2147483648 ≤ y3 - 1 ∧ y3 - 1 ≤ 2147483647) ∧ (((0 : Int) ≤ (y3 - 1) ∧ (y3 - 1) < ((201 : Nat) : Int)) ∧ (wpN G (d - 1) M_X11_less 0 (zar 0 [vI (gI h2 369 y3.toNat), vI (gI h2 369 (y3 - 1).toNat)]) [] h2 (qI (fun z13 h14 => zSh h14 ∧ ((-2147483648 ≤ 1 + z13 ∧ 1 + z13 ≤ 2147483647) ∧ (wpN G (d - 1) M_X11_less 0 (zar 0 [vI x9, vI (1 + z13)]) [] h14 (qI (fun z17 h18 => zSh h18 ∧ (((0 : Int) ≤ y3 ∧ y3 < ((201 : Nat) : Int)) ∧ (∀ h21 : zHp, h21 = sI h18 369 y3.toNat z17 → ((-2147483648 ≤ y3 + 1 ∧ y3 + 1 ≤ 2147483647) ∧ ∀ x23 : Int, x23 = y3 + 1 → (zSh h21 → I_49 y1 x11 x23 h21))))))))))))))))))) ∧ ((gI h2 349 (y1 - 1).toNat) = (gI h2 344 (y3 - 1).toNat) → ((-2147483648 ≤ y2 + 0 ∧ y2 + 0 ≤ 2147483647) ∧ (∀ x25 : Int, x25 = (y2 + 0) → (((0 : Int) ≤ y3 ∧ y3 < ((201 : Nat) : Int)) ∧ (∀ x27 : Int, x27 = (gI h2 369 y3.toNat) → (((0 : Int) ≤ y3 ∧ y3 < ((201 : Nat) : Int)) ∧ ((-2147483648 ≤ y3 - 1 ∧ y3 - 1 ≤ 2147483647) ∧ (((0 : Int) ≤ (y3 - 1) ∧ (y3 - 1) < ((201 : Nat) : Int)) ∧ (wpN G (d - 1) M_X11_less 0 (zar 0 [vI (gI h2 369 y3.toNat), vI (gI h2 369 (y3 - 1).toNat)]) [] h2 (qI (fun z29 h30 => zSh h30 ∧ ((-2147483648 ≤ 1 + z29 ∧ 1 + z29 ≤ 2147483647) ∧ (wpN G (d - 1) M_X11_less 0 (zar 0 [vI x25, vI (1 + z29)]) [] h30 (qI (fun z33 h34 => zSh h34 ∧ (((0 : Int) ≤ y3 ∧ y3 < ((201 : Nat) : Int)) ∧ (∀ h37 : zHp, h37 = sI h34 369 y3.toNat z33 → ((-2147483648 ≤ y3 + 1 ∧ y3 + 1 ≤ 2147483647) ∧ ∀ x39 : Int, x39 = y3 + 1 → (zSh h37 → I_49 y1 x27 x39 h37)))))))))))))))))))))))))))))) : wpN G d M_X11_distance 49 [(0, vR 343), (1, vI y1), (2, vI y2), (3, vI y3)] [] h Q := by
  refine wq_iload_n 3 rfl rfl dX11_distance_49 ?_
  refine wq_aload_n 0 rfl rfl dX11_distance_50 ?_
  refine wN_V (As := []) vm_X11_size lk_X11_218 tT_343 rfl rfl (Nat.le_of_ble_eq_true rfl) (Nat.le_of_ble_eq_true rfl) (d' := d - 1) (by omega) dX11_distance_51 hv (fun v9 h2 q3 => ?_)
  obtain ⟨z1, rfl, hS4, q3⟩ := q3
  refine wq_st (st' := [vI z1, vI y3]) rfl ?_
  refine wq_icmp_gt 128 rfl dX11_distance_54 (fun c5 => ?_) (fun c5 => ?_)
  · refine z_nm (y1 + 1) (fun x6 e7 => ?_)
    refine wq_iinc (y := x6) (ls' := [(0, vR 343), (1, vI x6), (2, vI y2), (3, vI y3)]) 1 rfl e7.symm (by rw [e7]; exact (q3.1 c5).1) (by decide) rfl dX11_distance_128 ?_
    refine wq_goto 25 rfl dX11_distance_131 ?_
    exact wq_pick [0, 1] rfl (hI_25 x6 h2 (((q3.1 c5).2 x6 e7) hS4))
  · refine wq_iload_n 2 rfl rfl dX11_distance_57 ?_
    refine wq_aload_n 0 rfl rfl dX11_distance_58 ?_
    refine wq_getR fk_X11_25 tT_343 (fun _ _ _ => rfl) (sh_11_9 hS4) (by decide) dX11_distance_59 ?_
    refine wq_iload_n 1 rfl rfl dX11_distance_62 ?_
    refine wq_iconst (z := 1) (zlit rfl) dX11_distance_63 ?_
    refine wq_isub (q3.2 c5).1 dX11_distance_64 ?_
    refine wq_iald tT_349 (q3.2 c5).2.1.1 (q3.2 c5).2.1.2 dX11_distance_65 ?_
    refine wq_aload_n 0 rfl rfl dX11_distance_66 ?_
    refine wq_getR fk_X11_7 tT_343 (fun _ _ _ => rfl) (sh_11_0 hS4) (by decide) dX11_distance_67 ?_
    refine wq_iload_n 3 rfl rfl dX11_distance_70 ?_
    refine wq_iconst (z := 1) (zlit rfl) dX11_distance_71 ?_
    refine wq_isub (q3.2 c5).2.2.1 dX11_distance_72 ?_
    refine wq_iald tT_344 (q3.2 c5).2.2.2.1.1 (q3.2 c5).2.2.2.1.2 dX11_distance_73 ?_
    refine wq_icmp_ne 81 rfl dX11_distance_74 (fun c8 => ?_) (fun c8 => ?_)
    · refine wq_iconst (z := 1) (zlit rfl) dX11_distance_81 ?_
      refine wq_iadd ((q3.2 c5).2.2.2.2.1 c8).1 dX11_distance_82 ?_
      refine wq_topI (fun x9 e10 => ?_)
      refine wq_istore (ls' := [(0, vR 343), (1, vI y1), (2, vI y2), (3, vI y3), (4, vI x9)]) (by decide) rfl dX11_distance_83 ?_
      refine wq_aload_n 0 rfl rfl dX11_distance_85 ?_
      refine wq_getR fk_X11_86 tT_343 (fun _ _ _ => rfl) (sh_11_43 hS4) (by decide) dX11_distance_86 ?_
      refine wq_iload_n 3 rfl rfl dX11_distance_89 ?_
      refine wq_iald tT_369 (((q3.2 c5).2.2.2.2.1 c8).2 x9 e10).1.1 (((q3.2 c5).2.2.2.2.1 c8).2 x9 e10).1.2 dX11_distance_90 ?_
      refine wq_topI (fun x11 e12 => ?_)
      refine wq_istore_n (ls' := [(0, vR 343), (1, vI y1), (2, vI x11), (3, vI y3), (4, vI x9)]) rfl (by decide) rfl dX11_distance_91 ?_
      refine wq_aload_n 0 rfl rfl dX11_distance_92 ?_
      refine wq_getR fk_X11_86 tT_343 (fun _ _ _ => rfl) (sh_11_43 hS4) (by decide) dX11_distance_93 ?_
      refine wq_iload_n 3 rfl rfl dX11_distance_96 ?_
      refine wq_iload 4 rfl dX11_distance_97 ?_
      refine wq_iconst (z := 1) (zlit rfl) dX11_distance_99 ?_
      refine wq_aload_n 0 rfl rfl dX11_distance_100 ?_
      refine wq_getR fk_X11_86 tT_343 (fun _ _ _ => rfl) (sh_11_43 hS4) (by decide) dX11_distance_101 ?_
      refine wq_iload_n 3 rfl rfl dX11_distance_104 ?_
      refine wq_iald tT_369 ((((q3.2 c5).2.2.2.2.1 c8).2 x9 e10).2 x11 e12).1.1 ((((q3.2 c5).2.2.2.2.1 c8).2 x9 e10).2 x11 e12).1.2 dX11_distance_105 ?_
      refine wq_aload_n 0 rfl rfl dX11_distance_106 ?_
      refine wq_getR fk_X11_86 tT_343 (fun _ _ _ => rfl) (sh_11_43 hS4) (by decide) dX11_distance_107 ?_
      refine wq_iload_n 3 rfl rfl dX11_distance_110 ?_
      refine wq_iconst (z := 1) (zlit rfl) dX11_distance_111 ?_
      refine wq_isub ((((q3.2 c5).2.2.2.2.1 c8).2 x9 e10).2 x11 e12).2.1 dX11_distance_112 ?_
      refine wq_iald tT_369 ((((q3.2 c5).2.2.2.2.1 c8).2 x9 e10).2 x11 e12).2.2.1.1 ((((q3.2 c5).2.2.2.2.1 c8).2 x9 e10).2 x11 e12).2.2.1.2 dX11_distance_113 ?_
      refine wN_S (As := [vI (gI h2 369 y3.toNat), vI (gI h2 369 (y3 - 1).toNat)]) md_X11_less ms_X11_less lk_X11_363 rfl rfl (Nat.le_of_ble_eq_true rfl) (Nat.le_of_ble_eq_true rfl) (d' := d - 1) (by omega) dX11_distance_114 ((((q3.2 c5).2.2.2.2.1 c8).2 x9 e10).2 x11 e12).2.2.2 (fun v9 h14 q15 => ?_)
      obtain ⟨z13, rfl, hS16, q15⟩ := q15
      refine wq_st (st' := [vI z13, vI 1, vI x9, vI y3, vR 369]) rfl ?_
      refine wq_iadd q15.1 dX11_distance_117 ?_
      refine wN_S (As := [vI x9, vI (1 + z13)]) md_X11_less ms_X11_less lk_X11_363 rfl rfl (Nat.le_of_ble_eq_true rfl) (Nat.le_of_ble_eq_true rfl) (d' := d - 1) (by omega) dX11_distance_118 q15.2 (fun v9 h18 q19 => ?_)
      obtain ⟨z17, rfl, hS20, q19⟩ := q19
      refine wq_st (st' := [vI z17, vI y3, vR 369]) rfl ?_
      refine wq_iast tT_369 q19.1.1 q19.1.2 dX11_distance_121 ?_
      refine wq_toph (fun h21 e22 => ?_)
      have sh21 : zSh h21 := zSh_of e22 hS20
      refine z_nm (y3 + 1) (fun x23 e24 => ?_)
      refine wq_iinc (y := x23) (ls' := [(0, vR 343), (1, vI y1), (2, vI x11), (3, vI x23), (4, vI x9)]) 3 rfl e24.symm (by rw [e24]; exact (q19.2 h21 e22).1) (by decide) rfl dX11_distance_122 ?_
      refine wq_goto 49 rfl dX11_distance_125 ?_
      exact wq_pick [0, 1, 2, 3] rfl (hI_49 y1 x11 x23 h21 (((q19.2 h21 e22).2 x23 e24) sh21))
    · refine wq_iconst (z := 0) (zlit rfl) dX11_distance_77 ?_
      refine wq_goto 82 rfl dX11_distance_78 ?_
      refine wq_iadd ((q3.2 c5).2.2.2.2.2 c8).1 dX11_distance_82 ?_
      refine wq_topI (fun x25 e26 => ?_)
      refine wq_istore (ls' := [(0, vR 343), (1, vI y1), (2, vI y2), (3, vI y3), (4, vI x25)]) (by decide) rfl dX11_distance_83 ?_
      refine wq_aload_n 0 rfl rfl dX11_distance_85 ?_
      refine wq_getR fk_X11_86 tT_343 (fun _ _ _ => rfl) (sh_11_43 hS4) (by decide) dX11_distance_86 ?_
      refine wq_iload_n 3 rfl rfl dX11_distance_89 ?_
      refine wq_iald tT_369 (((q3.2 c5).2.2.2.2.2 c8).2 x25 e26).1.1 (((q3.2 c5).2.2.2.2.2 c8).2 x25 e26).1.2 dX11_distance_90 ?_
      refine wq_topI (fun x27 e28 => ?_)
      refine wq_istore_n (ls' := [(0, vR 343), (1, vI y1), (2, vI x27), (3, vI y3), (4, vI x25)]) rfl (by decide) rfl dX11_distance_91 ?_
      refine wq_aload_n 0 rfl rfl dX11_distance_92 ?_
      refine wq_getR fk_X11_86 tT_343 (fun _ _ _ => rfl) (sh_11_43 hS4) (by decide) dX11_distance_93 ?_
      refine wq_iload_n 3 rfl rfl dX11_distance_96 ?_
      refine wq_iload 4 rfl dX11_distance_97 ?_
      refine wq_iconst (z := 1) (zlit rfl) dX11_distance_99 ?_
      refine wq_aload_n 0 rfl rfl dX11_distance_100 ?_
      refine wq_getR fk_X11_86 tT_343 (fun _ _ _ => rfl) (sh_11_43 hS4) (by decide) dX11_distance_101 ?_
      refine wq_iload_n 3 rfl rfl dX11_distance_104 ?_
      refine wq_iald tT_369 ((((q3.2 c5).2.2.2.2.2 c8).2 x25 e26).2 x27 e28).1.1 ((((q3.2 c5).2.2.2.2.2 c8).2 x25 e26).2 x27 e28).1.2 dX11_distance_105 ?_
      refine wq_aload_n 0 rfl rfl dX11_distance_106 ?_
      refine wq_getR fk_X11_86 tT_343 (fun _ _ _ => rfl) (sh_11_43 hS4) (by decide) dX11_distance_107 ?_
      refine wq_iload_n 3 rfl rfl dX11_distance_110 ?_
      refine wq_iconst (z := 1) (zlit rfl) dX11_distance_111 ?_
      refine wq_isub ((((q3.2 c5).2.2.2.2.2 c8).2 x25 e26).2 x27 e28).2.1 dX11_distance_112 ?_
      refine wq_iald tT_369 ((((q3.2 c5).2.2.2.2.2 c8).2 x25 e26).2 x27 e28).2.2.1.1 ((((q3.2 c5).2.2.2.2.2 c8).2 x25 e26).2 x27 e28).2.2.1.2 dX11_distance_113 ?_
      refine wN_S (As := [vI (gI h2 369 y3.toNat), vI (gI h2 369 (y3 - 1).toNat)]) md_X11_less ms_X11_less lk_X11_363 rfl rfl (Nat.le_of_ble_eq_true rfl) (Nat.le_of_ble_eq_true rfl) (d' := d - 1) (by omega) dX11_distance_114 ((((q3.2 c5).2.2.2.2.2 c8).2 x25 e26).2 x27 e28).2.2.2 (fun v9 h30 q31 => ?_)
      obtain ⟨z29, rfl, hS32, q31⟩ := q31
      refine wq_st (st' := [vI z29, vI 1, vI x25, vI y3, vR 369]) rfl ?_
      refine wq_iadd q31.1 dX11_distance_117 ?_
      refine wN_S (As := [vI x25, vI (1 + z29)]) md_X11_less ms_X11_less lk_X11_363 rfl rfl (Nat.le_of_ble_eq_true rfl) (Nat.le_of_ble_eq_true rfl) (d' := d - 1) (by omega) dX11_distance_118 q31.2 (fun v9 h34 q35 => ?_)
      obtain ⟨z33, rfl, hS36, q35⟩ := q35
      refine wq_st (st' := [vI z33, vI y3, vR 369]) rfl ?_
      refine wq_iast tT_369 q35.1.1 q35.1.2 dX11_distance_121 ?_
      refine wq_toph (fun h37 e38 => ?_)
      have sh37 : zSh h37 := zSh_of e38 hS36
      refine z_nm (y3 + 1) (fun x39 e40 => ?_)
      refine wq_iinc (y := x39) (ls' := [(0, vR 343), (1, vI y1), (2, vI x27), (3, vI x39), (4, vI x25)]) 3 rfl e40.symm (by rw [e40]; exact (q35.2 h37 e38).1) (by decide) rfl dX11_distance_122 ?_
      refine wq_goto 49 rfl dX11_distance_125 ?_
      exact wq_pick [0, 1, 2, 3] rfl (hI_49 y1 x27 x39 h37 (((q35.2 h37 e38).2 x39 e40) sh37))
theorem dX11_present_0 : decode cX11_present 0 = .ok (.iconst 0, 1) := by decide +kernel
theorem dX11_present_1 : decode cX11_present 1 = .ok (.istore_n 1, 1) := by decide +kernel
theorem dX11_present_2 : decode cX11_present 2 = .ok (.iconst 0, 1) := by decide +kernel
theorem dX11_present_3 : decode cX11_present 3 = .ok (.istore_n 2, 1) := by decide +kernel
theorem dX11_present_4 : decode cX11_present 4 = .ok (.iload_n 2, 1) := by decide +kernel
theorem dX11_present_5 : decode cX11_present 5 = .ok (.iconst 4, 1) := by decide +kernel
theorem dX11_present_6 : decode cX11_present 6 = .ok (.if_icmp .ge 25, 3) := by decide +kernel
theorem dX11_present_9 : decode cX11_present 9 = .ok (.iload_n 1, 1) := by decide +kernel
theorem dX11_present_10 : decode cX11_present 10 = .ok (.aload_n 0, 1) := by decide +kernel
theorem dX11_present_11 : decode cX11_present 11 = .ok (.iload_n 2, 1) := by decide +kernel
theorem dX11_present_12 : decode cX11_present 12 = .ok (.invokevirtual 204, 3) := by decide +kernel
theorem dX11_present_15 : decode cX11_present 15 = .ok (.ifCond .eq 7, 3) := by decide +kernel
theorem dX11_present_18 : decode cX11_present 18 = .ok (.iconst 1, 1) := by decide +kernel
theorem dX11_present_19 : decode cX11_present 19 = .ok (.goto 4, 3) := by decide +kernel
theorem dX11_present_22 : decode cX11_present 22 = .ok (.iconst 0, 1) := by decide +kernel
theorem dX11_present_23 : decode cX11_present 23 = .ok (.iadd, 1) := by decide +kernel
theorem dX11_present_24 : decode cX11_present 24 = .ok (.istore_n 1, 1) := by decide +kernel
theorem dX11_present_25 : decode cX11_present 25 = .ok (.iinc 2 1, 3) := by decide +kernel
theorem dX11_present_28 : decode cX11_present 28 = .ok (.goto (-24), 3) := by decide +kernel
theorem dX11_present_31 : decode cX11_present 31 = .ok (.iload_n 1, 1) := by decide +kernel
theorem dX11_present_32 : decode cX11_present 32 = .ok (.ireturn, 1) := by decide +kernel
theorem vc_X11_present_0 {G : zG} {d : Nat} {Q : Option zV → zHp → Prop}  (h : zHp) (hS : zSh h) (hd : 2 ≤ d) (I_4 : Int → Int → zHp → Prop) (hI_4 : ∀ (y1 : Int) (y2 : Int) (h' : zHp), I_4 y1 y2 h' → wpN G d M_X11_present 4 [(0, vR 343), (1, vI y1), (2, vI y2)] [] h' Q) 
    (hv : (zSh h → I_4 0 0 h)) : wpN G d M_X11_present 0 [(0, vR 343)] [] h Q := by
  refine wq_iconst (z := 0) (zlit rfl) dX11_present_0 ?_
  refine wq_istore_n (ls' := [(0, vR 343), (1, vI 0)]) rfl (by decide) rfl dX11_present_1 ?_
  refine wq_iconst (z := 0) (zlit rfl) dX11_present_2 ?_
  refine wq_istore_n (ls' := [(0, vR 343), (1, vI 0), (2, vI 0)]) rfl (by decide) rfl dX11_present_3 ?_
  exact wq_pick [0, 1, 2] rfl (hI_4 0 0 h (hv hS))
theorem vc_X11_present_4 {G : zG} {d : Nat} {Q : Option zV → zHp → Prop} (y1 : Int) (y2 : Int) (h : zHp) (hS : zSh h) (hd : 2 ≤ d) (I_4 : Int → Int → zHp → Prop) (hI_4 : ∀ (y1 : Int) (y2 : Int) (h' : zHp), I_4 y1 y2 h' → wpN G d M_X11_present 4 [(0, vR 343), (1, vI y1), (2, vI y2)] [] h' Q) 
    (hv : ((4 ≤ y2 → Q (some (vI y1)) h) ∧ (y2 < 4 → (wpN G (d - 1) M_X11_isPresent 0 (zar 0 [vR 343, vI y2]) [] h (qI (fun z2 h3 => zSh h3 ∧ ((z2 = 0 → ((-2147483648 ≤ y1 + 0 ∧ y1 + 0 ≤ 2147483647) ∧ (∀ x7 : Int, x7 = (y1 + 0) → ((-2147483648 ≤ y2 + 1 ∧ y2 + 1 ≤ 2147483647) ∧ ∀ x9 : Int, x9 = y2 + 1 → (zSh h3 → I_4 x7 x9 h3))))) ∧ (z2 ≠ 0 → ((-2147483648 ≤ y1 + 1 ∧ y1 + 1 ≤ 2147483647) ∧ (∀ x11 : Int, x11 = (y1 + 1) → ((-2147483648 ≤ y2 + 1 ∧ y2 + 1 ≤ 2147483647) ∧ ∀ x13 : Int, x13 = y2 + 1 → (zSh h3 → I_4 x11 x13 h3)))))))))))) : wpN G d M_X11_present 4 [(0, vR 343), (1, vI y1), (2, vI y2)] [] h Q := by
  refine wq_iload_n 2 rfl rfl dX11_present_4 ?_
  refine wq_iconst (z := 4) (zlit rfl) dX11_present_5 ?_
  refine wq_icmp_ge 31 rfl dX11_present_6 (fun c1 => ?_) (fun c1 => ?_)
  · refine wq_iload_n 1 rfl rfl dX11_present_31 ?_
    exact wp_iret rfl dX11_present_32 (hv.1 c1)
  · refine wq_iload_n 1 rfl rfl dX11_present_9 ?_
    refine wq_aload_n 0 rfl rfl dX11_present_10 ?_
    refine wq_iload_n 2 rfl rfl dX11_present_11 ?_
    refine wN_V (As := [vI y2]) vm_X11_isPresent lk_X11_204 tT_343 rfl rfl (Nat.le_of_ble_eq_true rfl) (Nat.le_of_ble_eq_true rfl) (d' := d - 1) (by omega) dX11_present_12 (hv.2 c1) (fun v9 h3 q4 => ?_)
    obtain ⟨z2, rfl, hS5, q4⟩ := q4
    refine wq_st (st' := [vI z2, vI y1]) rfl ?_
    refine wq_if_eq 22 rfl dX11_present_15 (fun c6 => ?_) (fun c6 => ?_)
    · refine wq_iconst (z := 0) (zlit rfl) dX11_present_22 ?_
      refine wq_iadd (q4.1 c6).1 dX11_present_23 ?_
      refine wq_topI (fun x7 e8 => ?_)
      refine wq_istore_n (ls' := [(0, vR 343), (1, vI x7), (2, vI y2)]) rfl (by decide) rfl dX11_present_24 ?_
      refine z_nm (y2 + 1) (fun x9 e10 => ?_)
      refine wq_iinc (y := x9) (ls' := [(0, vR 343), (1, vI x7), (2, vI x9)]) 2 rfl e10.symm (by rw [e10]; exact ((q4.1 c6).2 x7 e8).1) (by decide) rfl dX11_present_25 ?_
      refine wq_goto 4 rfl dX11_present_28 ?_
      exact wq_pick [0, 1, 2] rfl (hI_4 x7 x9 h3 ((((q4.1 c6).2 x7 e8).2 x9 e10) hS5))
    · refine wq_iconst (z := 1) (zlit rfl) dX11_present_18 ?_
      refine wq_goto 23 rfl dX11_present_19 ?_
      refine wq_iadd (q4.2 c6).1 dX11_present_23 ?_
      refine wq_topI (fun x11 e12 => ?_)
      refine wq_istore_n (ls' := [(0, vR 343), (1, vI x11), (2, vI y2)]) rfl (by decide) rfl dX11_present_24 ?_
      refine z_nm (y2 + 1) (fun x13 e14 => ?_)
      refine wq_iinc (y := x13) (ls' := [(0, vR 343), (1, vI x11), (2, vI x13)]) 2 rfl e14.symm (by rw [e14]; exact ((q4.2 c6).2 x11 e12).1) (by decide) rfl dX11_present_25 ?_
      refine wq_goto 4 rfl dX11_present_28 ?_
      exact wq_pick [0, 1, 2] rfl (hI_4 x11 x13 h3 ((((q4.2 c6).2 x11 e12).2 x13 e14) hS5))
theorem dX11_allWrong_0 : decode cX11_allWrong 0 = .ok (.iconst 0, 1) := by decide +kernel
theorem dX11_allWrong_1 : decode cX11_allWrong 1 = .ok (.istore_n 1, 1) := by decide +kernel
theorem dX11_allWrong_2 : decode cX11_allWrong 2 = .ok (.iconst 0, 1) := by decide +kernel
theorem dX11_allWrong_3 : decode cX11_allWrong 3 = .ok (.istore_n 2, 1) := by decide +kernel
theorem dX11_allWrong_4 : decode cX11_allWrong 4 = .ok (.iload_n 2, 1) := by decide +kernel
theorem dX11_allWrong_5 : decode cX11_allWrong 5 = .ok (.iconst 4, 1) := by decide +kernel
theorem dX11_allWrong_6 : decode cX11_allWrong 6 = .ok (.if_icmp .ge 29, 3) := by decide +kernel
theorem dX11_allWrong_9 : decode cX11_allWrong 9 = .ok (.aload_n 0, 1) := by decide +kernel
theorem dX11_allWrong_10 : decode cX11_allWrong 10 = .ok (.iload_n 2, 1) := by decide +kernel
theorem dX11_allWrong_11 : decode cX11_allWrong 11 = .ok (.invokevirtual 204, 3) := by decide +kernel
theorem dX11_allWrong_14 : decode cX11_allWrong 14 = .ok (.ifCond .eq 15, 3) := by decide +kernel
theorem dX11_allWrong_17 : decode cX11_allWrong 17 = .ok (.aload_n 0, 1) := by decide +kernel
theorem dX11_allWrong_18 : decode cX11_allWrong 18 = .ok (.iload_n 2, 1) := by decide +kernel
theorem dX11_allWrong_19 : decode cX11_allWrong 19 = .ok (.invokevirtual 295, 3) := by decide +kernel
theorem dX11_allWrong_22 : decode cX11_allWrong 22 = .ok (.iload_n 1, 1) := by decide +kernel
theorem dX11_allWrong_23 : decode cX11_allWrong 23 = .ok (.aload_n 0, 1) := by decide +kernel
theorem dX11_allWrong_24 : decode cX11_allWrong 24 = .ok (.invokevirtual 345, 3) := by decide +kernel
theorem dX11_allWrong_27 : decode cX11_allWrong 27 = .ok (.iadd, 1) := by decide +kernel
theorem dX11_allWrong_28 : decode cX11_allWrong 28 = .ok (.istore_n 1, 1) := by decide +kernel
theorem dX11_allWrong_29 : decode cX11_allWrong 29 = .ok (.iinc 2 1, 3) := by decide +kernel
theorem dX11_allWrong_32 : decode cX11_allWrong 32 = .ok (.goto (-28), 3) := by decide +kernel
theorem dX11_allWrong_35 : decode cX11_allWrong 35 = .ok (.iload_n 1, 1) := by decide +kernel
theorem dX11_allWrong_36 : decode cX11_allWrong 36 = .ok (.ireturn, 1) := by decide +kernel
theorem vc_X11_allWrong_0 {G : zG} {d : Nat} {Q : Option zV → zHp → Prop}  (h : zHp) (hS : zSh h) (hd : 5 ≤ d) (I_4 : Int → Int → zHp → Prop) (hI_4 : ∀ (y1 : Int) (y2 : Int) (h' : zHp), I_4 y1 y2 h' → wpN G d M_X11_allWrong 4 [(0, vR 343), (1, vI y1), (2, vI y2)] [] h' Q) 
    (hv : (zSh h → I_4 0 0 h)) : wpN G d M_X11_allWrong 0 [(0, vR 343)] [] h Q := by
  refine wq_iconst (z := 0) (zlit rfl) dX11_allWrong_0 ?_
  refine wq_istore_n (ls' := [(0, vR 343), (1, vI 0)]) rfl (by decide) rfl dX11_allWrong_1 ?_
  refine wq_iconst (z := 0) (zlit rfl) dX11_allWrong_2 ?_
  refine wq_istore_n (ls' := [(0, vR 343), (1, vI 0), (2, vI 0)]) rfl (by decide) rfl dX11_allWrong_3 ?_
  exact wq_pick [0, 1, 2] rfl (hI_4 0 0 h (hv hS))
theorem vc_X11_allWrong_4 {G : zG} {d : Nat} {Q : Option zV → zHp → Prop} (y1 : Int) (y2 : Int) (h : zHp) (hS : zSh h) (hd : 5 ≤ d) (I_4 : Int → Int → zHp → Prop) (hI_4 : ∀ (y1 : Int) (y2 : Int) (h' : zHp), I_4 y1 y2 h' → wpN G d M_X11_allWrong 4 [(0, vR 343), (1, vI y1), (2, vI y2)] [] h' Q) 
    (hv : ((4 ≤ y2 → Q (some (vI y1)) h) ∧ (y2 < 4 → (wpN G (d - 1) M_X11_isPresent 0 (zar 0 [vR 343, vI y2]) [] h (qI (fun z2 h3 => zSh h3 ∧ ((z2 = 0 → ((-2147483648 ≤ y2 + 1 ∧ y2 + 1 ≤ 2147483647) ∧ ∀ x7 : Int, x7 = y2 + 1 → (zSh h3 → I_4 y1 x7 h3))) ∧ (z2 ≠ 0 → (wpN G (d - 1) M_X11_laysOut 0 (zar 0 [vR 343, vI y2]) [] h3 (qV (fun h10 => zSh h10 ∧ (wpN G (d - 1) M_X11_wrongs 0 (zar 0 [vR 343]) [] h10 (qI (fun z13 h14 => zSh h14 ∧ ((-2147483648 ≤ y1 + z13 ∧ y1 + z13 ≤ 2147483647) ∧ (∀ x17 : Int, x17 = (y1 + z13) → ((-2147483648 ≤ y2 + 1 ∧ y2 + 1 ≤ 2147483647) ∧ ∀ x19 : Int, x19 = y2 + 1 → (zSh h14 → I_4 x17 x19 h14)))))))))))))))))) : wpN G d M_X11_allWrong 4 [(0, vR 343), (1, vI y1), (2, vI y2)] [] h Q := by
  refine wq_iload_n 2 rfl rfl dX11_allWrong_4 ?_
  refine wq_iconst (z := 4) (zlit rfl) dX11_allWrong_5 ?_
  refine wq_icmp_ge 35 rfl dX11_allWrong_6 (fun c1 => ?_) (fun c1 => ?_)
  · refine wq_iload_n 1 rfl rfl dX11_allWrong_35 ?_
    exact wp_iret rfl dX11_allWrong_36 (hv.1 c1)
  · refine wq_aload_n 0 rfl rfl dX11_allWrong_9 ?_
    refine wq_iload_n 2 rfl rfl dX11_allWrong_10 ?_
    refine wN_V (As := [vI y2]) vm_X11_isPresent lk_X11_204 tT_343 rfl rfl (Nat.le_of_ble_eq_true rfl) (Nat.le_of_ble_eq_true rfl) (d' := d - 1) (by omega) dX11_allWrong_11 (hv.2 c1) (fun v9 h3 q4 => ?_)
    obtain ⟨z2, rfl, hS5, q4⟩ := q4
    refine wq_st (st' := [vI z2]) rfl ?_
    refine wq_if_eq 29 rfl dX11_allWrong_14 (fun c6 => ?_) (fun c6 => ?_)
    · refine z_nm (y2 + 1) (fun x7 e8 => ?_)
      refine wq_iinc (y := x7) (ls' := [(0, vR 343), (1, vI y1), (2, vI x7)]) 2 rfl e8.symm (by rw [e8]; exact (q4.1 c6).1) (by decide) rfl dX11_allWrong_29 ?_
      refine wq_goto 4 rfl dX11_allWrong_32 ?_
      exact wq_pick [0, 1, 2] rfl (hI_4 y1 x7 h3 (((q4.1 c6).2 x7 e8) hS5))
    · refine wq_aload_n 0 rfl rfl dX11_allWrong_17 ?_
      refine wq_iload_n 2 rfl rfl dX11_allWrong_18 ?_
      refine wN_V (As := [vI y2]) vm_X11_laysOut lk_X11_295 tT_343 rfl rfl (Nat.le_of_ble_eq_true rfl) (Nat.le_of_ble_eq_true rfl) (d' := d - 1) (by omega) dX11_allWrong_19 (q4.2 c6) (fun v9 h10 q11 => ?_)
      obtain ⟨rfl, hS12, q11⟩ := q11
      refine wq_st (st' := []) rfl ?_
      refine wq_iload_n 1 rfl rfl dX11_allWrong_22 ?_
      refine wq_aload_n 0 rfl rfl dX11_allWrong_23 ?_
      refine wN_V (As := []) vm_X11_wrongs lk_X11_345 tT_343 rfl rfl (Nat.le_of_ble_eq_true rfl) (Nat.le_of_ble_eq_true rfl) (d' := d - 1) (by omega) dX11_allWrong_24 q11 (fun v9 h14 q15 => ?_)
      obtain ⟨z13, rfl, hS16, q15⟩ := q15
      refine wq_st (st' := [vI z13, vI y1]) rfl ?_
      refine wq_iadd q15.1 dX11_allWrong_27 ?_
      refine wq_topI (fun x17 e18 => ?_)
      refine wq_istore_n (ls' := [(0, vR 343), (1, vI x17), (2, vI y2)]) rfl (by decide) rfl dX11_allWrong_28 ?_
      refine z_nm (y2 + 1) (fun x19 e20 => ?_)
      refine wq_iinc (y := x19) (ls' := [(0, vR 343), (1, vI x17), (2, vI x19)]) 2 rfl e20.symm (by rw [e20]; exact (q15.2 x17 e18).1) (by decide) rfl dX11_allWrong_29 ?_
      refine wq_goto 4 rfl dX11_allWrong_32 ?_
      exact wq_pick [0, 1, 2] rfl (hI_4 x17 x19 h14 (((q15.2 x17 e18).2 x19 e20) hS16))
theorem dX11_count_0 : decode cX11_count 0 = .ok (.iload_n 1, 1) := by decide +kernel
theorem dX11_count_1 : decode cX11_count 1 = .ok (.tableswitch 95 0 7 #[47, 52, 57, 62, 67, 72, 77, 82], 47) := by decide +kernel
theorem dX11_count_48 : decode cX11_count 48 = .ok (.aload_n 0, 1) := by decide +kernel
theorem dX11_count_49 : decode cX11_count 49 = .ok (.invokevirtual 369, 3) := by decide +kernel
theorem dX11_count_52 : decode cX11_count 52 = .ok (.ireturn, 1) := by decide +kernel
theorem dX11_count_53 : decode cX11_count 53 = .ok (.aload_n 0, 1) := by decide +kernel
theorem dX11_count_54 : decode cX11_count 54 = .ok (.invokevirtual 372, 3) := by decide +kernel
theorem dX11_count_57 : decode cX11_count 57 = .ok (.ireturn, 1) := by decide +kernel
theorem dX11_count_58 : decode cX11_count 58 = .ok (.aload_n 0, 1) := by decide +kernel
theorem dX11_count_59 : decode cX11_count 59 = .ok (.getfield 317, 3) := by decide +kernel
theorem dX11_count_62 : decode cX11_count 62 = .ok (.ireturn, 1) := by decide +kernel
theorem dX11_count_63 : decode cX11_count 63 = .ok (.aload_n 0, 1) := by decide +kernel
theorem dX11_count_64 : decode cX11_count 64 = .ok (.getfield 320, 3) := by decide +kernel
theorem dX11_count_67 : decode cX11_count 67 = .ok (.ireturn, 1) := by decide +kernel
theorem dX11_count_68 : decode cX11_count 68 = .ok (.aload_n 0, 1) := by decide +kernel
theorem dX11_count_69 : decode cX11_count 69 = .ok (.getfield 340, 3) := by decide +kernel
theorem dX11_count_72 : decode cX11_count 72 = .ok (.ireturn, 1) := by decide +kernel
theorem dX11_count_73 : decode cX11_count 73 = .ok (.aload_n 0, 1) := by decide +kernel
theorem dX11_count_74 : decode cX11_count 74 = .ok (.getfield 366, 3) := by decide +kernel
theorem dX11_count_77 : decode cX11_count 77 = .ok (.ireturn, 1) := by decide +kernel
theorem dX11_count_78 : decode cX11_count 78 = .ok (.aload_n 0, 1) := by decide +kernel
theorem dX11_count_79 : decode cX11_count 79 = .ok (.getfield 97, 3) := by decide +kernel
theorem dX11_count_82 : decode cX11_count 82 = .ok (.ireturn, 1) := by decide +kernel
theorem dX11_count_83 : decode cX11_count 83 = .ok (.aload_n 0, 1) := by decide +kernel
theorem dX11_count_84 : decode cX11_count 84 = .ok (.getfield 310, 3) := by decide +kernel
theorem dX11_count_87 : decode cX11_count 87 = .ok (.ifCond .eq 7, 3) := by decide +kernel
theorem dX11_count_90 : decode cX11_count 90 = .ok (.iconst 1, 1) := by decide +kernel
theorem dX11_count_91 : decode cX11_count 91 = .ok (.goto 4, 3) := by decide +kernel
theorem dX11_count_94 : decode cX11_count 94 = .ok (.iconst 0, 1) := by decide +kernel
theorem dX11_count_95 : decode cX11_count 95 = .ok (.ireturn, 1) := by decide +kernel
theorem dX11_count_96 : decode cX11_count 96 = .ok (.sipush (-1001), 3) := by decide +kernel
theorem dX11_count_99 : decode cX11_count 99 = .ok (.ireturn, 1) := by decide +kernel
theorem vc_X11_count_0 {G : zG} {d : Nat} {Q : Option zV → zHp → Prop} (p1 : Int) (h : zHp) (hS : zSh h) (hd : 6 ≤ d)  
    (hv : ((p1 < 0 ∨ 7 < p1 → Q (some (vI (-1001))) h) ∧ (p1 = 0 + ((0 : Nat) : Int) → (wpN G (d - 1) M_X11_present 0 (zar 0 [vR 343]) [] h (qI (fun z2 h3 => zSh h3 ∧ Q (some (vI z2)) h3)))) ∧ (p1 = 0 + ((1 : Nat) : Int) → (wpN G (d - 1) M_X11_allWrong 0 (zar 0 [vR 343]) [] h (qI (fun z6 h7 => zSh h7 ∧ Q (some (vI z6)) h7)))) ∧ (p1 = 0 + ((2 : Nat) : Int) → Q (some (vI (gI h 343 2))) h) ∧ (p1 = 0 + ((3 : Nat) : Int) → Q (some (vI (gI h 343 4))) h) ∧ (p1 = 0 + ((4 : Nat) : Int) → Q (some (vI (gI h 343 8))) h) ∧ (p1 = 0 + ((5 : Nat) : Int) → Q (some (vI (gI h 343 10))) h) ∧ (p1 = 0 + ((6 : Nat) : Int) → Q (some (vI (gI h 343 12))) h) ∧ (p1 = 0 + ((7 : Nat) : Int) → (((gI h 343 6) = 0 → Q (some (vI 0)) h) ∧ ((gI h 343 6) ≠ 0 → Q (some (vI 1)) h))))) : wpN G d M_X11_count 0 [(0, vR 343), (1, vI p1)] [] h Q := by
  refine wq_iload_n 1 rfl rfl dX11_count_0 ?_
  refine wq_tsw 96 [48, 53, 58, 63, 68, 73, 78, 83] rfl rfl rfl dX11_count_1 (fun c1 => ?_) (fun j tg hj ej => ?_)
  · refine wq_sipush (z := -1001) (zlit rfl) rfl dX11_count_96 ?_
    exact wp_iret rfl dX11_count_99 (hv.1 c1)
  · match j, hj, ej with
    | 0, hj, ej =>
      cases hj
      refine wq_aload_n 0 rfl rfl dX11_count_48 ?_
      refine wN_V (As := []) vm_X11_present lk_X11_369 tT_343 rfl rfl (Nat.le_of_ble_eq_true rfl) (Nat.le_of_ble_eq_true rfl) (d' := d - 1) (by omega) dX11_count_49 (hv.2.1 ej) (fun v9 h3 q4 => ?_)
      obtain ⟨z2, rfl, hS5, q4⟩ := q4
      refine wq_st (st' := [vI z2]) rfl ?_
      exact wp_iret rfl dX11_count_52 q4
    | 1, hj, ej =>
      cases hj
      refine wq_aload_n 0 rfl rfl dX11_count_53 ?_
      refine wN_V (As := []) vm_X11_allWrong lk_X11_372 tT_343 rfl rfl (Nat.le_of_ble_eq_true rfl) (Nat.le_of_ble_eq_true rfl) (d' := d - 1) (by omega) dX11_count_54 (hv.2.2.1 ej) (fun v9 h7 q8 => ?_)
      obtain ⟨z6, rfl, hS9, q8⟩ := q8
      refine wq_st (st' := [vI z6]) rfl ?_
      exact wp_iret rfl dX11_count_57 q8
    | 2, hj, ej =>
      cases hj
      refine wq_aload_n 0 rfl rfl dX11_count_58 ?_
      refine wq_getI fk_X11_317 tT_343 (fun _ _ _ => rfl) dX11_count_59 ?_
      exact wp_iret rfl dX11_count_62 (hv.2.2.2.1 ej)
    | 3, hj, ej =>
      cases hj
      refine wq_aload_n 0 rfl rfl dX11_count_63 ?_
      refine wq_getI fk_X11_320 tT_343 (fun _ _ _ => rfl) dX11_count_64 ?_
      exact wp_iret rfl dX11_count_67 (hv.2.2.2.2.1 ej)
    | 4, hj, ej =>
      cases hj
      refine wq_aload_n 0 rfl rfl dX11_count_68 ?_
      refine wq_getI fk_X11_340 tT_343 (fun _ _ _ => rfl) dX11_count_69 ?_
      exact wp_iret rfl dX11_count_72 (hv.2.2.2.2.2.1 ej)
    | 5, hj, ej =>
      cases hj
      refine wq_aload_n 0 rfl rfl dX11_count_73 ?_
      refine wq_getI fk_X11_366 tT_343 (fun _ _ _ => rfl) dX11_count_74 ?_
      exact wp_iret rfl dX11_count_77 (hv.2.2.2.2.2.2.1 ej)
    | 6, hj, ej =>
      cases hj
      refine wq_aload_n 0 rfl rfl dX11_count_78 ?_
      refine wq_getI fk_X11_97 tT_343 (fun _ _ _ => rfl) dX11_count_79 ?_
      exact wp_iret rfl dX11_count_82 (hv.2.2.2.2.2.2.2.1 ej)
    | 7, hj, ej =>
      cases hj
      refine wq_aload_n 0 rfl rfl dX11_count_83 ?_
      refine wq_getI fk_X11_310 tT_343 (fun _ _ _ => rfl) dX11_count_84 ?_
      refine wq_if_eq 94 rfl dX11_count_87 (fun c10 => ?_) (fun c10 => ?_)
      · refine wq_iconst (z := 0) (zlit rfl) dX11_count_94 ?_
        exact wp_iret rfl dX11_count_95 ((hv.2.2.2.2.2.2.2.2 ej).1 c10)
      · refine wq_iconst (z := 1) (zlit rfl) dX11_count_90 ?_
        refine wq_goto 95 rfl dX11_count_91 ?_
        exact wp_iret rfl dX11_count_95 ((hv.2.2.2.2.2.2.2.2 ej).2 c10)
    | j + 8, hj, ej => exact absurd hj (by simp)
theorem dX11_mixes_0 : decode cX11_mixes 0 = .ok (.aload_n 0, 1) := by decide +kernel
theorem dX11_mixes_1 : decode cX11_mixes 1 = .ok (.ldc2_w 375, 3) := by decide +kernel
theorem dX11_mixes_4 : decode cX11_mixes 4 = .ok (.aload_n 0, 1) := by decide +kernel
theorem dX11_mixes_5 : decode cX11_mixes 5 = .ok (.getfield 377, 3) := by decide +kernel
theorem dX11_mixes_8 : decode cX11_mixes 8 = .ok (.lmul, 1) := by decide +kernel
theorem dX11_mixes_9 : decode cX11_mixes 9 = .ok (.lload_n 1, 1) := by decide +kernel
theorem dX11_mixes_10 : decode cX11_mixes 10 = .ok (.ladd, 1) := by decide +kernel
theorem dX11_mixes_11 : decode cX11_mixes 11 = .ok (.putfield 377, 3) := by decide +kernel
theorem dX11_mixes_14 : decode cX11_mixes 14 = .ok (.return_, 1) := by decide +kernel
theorem vc_X11_mixes_0 {G : zG} {d : Nat} {Q : Option zV → zHp → Prop} (p1 : Int) (h : zHp) (hS : zSh h) (hd : 0 ≤ d)  
    (hv : (∀ h1 : zHp, h1 = sL h 343 44 (w64 ((w64 (31 * (gL h 343 44))) + p1)) → Q none h1)) : wpN G d M_X11_mixes 0 [(0, vR 343), (1, vL p1)] [] h Q := by
  refine wq_aload_n 0 rfl rfl dX11_mixes_0 ?_
  refine wq_ldc2_w (z := 31) (zlitL rfl) kc_X11_375 dX11_mixes_1 ?_
  refine wq_aload_n 0 rfl rfl dX11_mixes_4 ?_
  refine wq_getL fk_X11_377 tT_343 (fun _ _ _ => rfl) dX11_mixes_5 ?_
  refine wq_lmul_w dX11_mixes_8 ?_
  refine wq_lload_n 1 rfl rfl dX11_mixes_9 ?_
  refine wq_ladd_w dX11_mixes_10 ?_
  refine wq_putL fk_X11_377 tT_343 rfl rfl dX11_mixes_11 ?_
  refine wq_toph (fun h1 e2 => ?_)
  have sh1 : zSh h1 := zSh_of e2 hS
  exact wp_vret rfl dX11_mixes_14 (hv h1 e2)
theorem dX11_mixesOverlay_0 : decode cX11_mixesOverlay 0 = .ok (.iconst 0, 1) := by decide +kernel
theorem dX11_mixesOverlay_1 : decode cX11_mixesOverlay 1 = .ok (.istore_n 2, 1) := by decide +kernel
theorem dX11_mixesOverlay_2 : decode cX11_mixesOverlay 2 = .ok (.iload_n 2, 1) := by decide +kernel
theorem dX11_mixesOverlay_3 : decode cX11_mixesOverlay 3 = .ok (.bipush 6, 2) := by decide +kernel
theorem dX11_mixesOverlay_5 : decode cX11_mixesOverlay 5 = .ok (.if_icmp .ge 20, 3) := by decide +kernel
theorem dX11_mixesOverlay_8 : decode cX11_mixesOverlay 8 = .ok (.aload_n 0, 1) := by decide +kernel
theorem dX11_mixesOverlay_9 : decode cX11_mixesOverlay 9 = .ok (.aload_n 0, 1) := by decide +kernel
theorem dX11_mixesOverlay_10 : decode cX11_mixesOverlay 10 = .ok (.iload_n 1, 1) := by decide +kernel
theorem dX11_mixesOverlay_11 : decode cX11_mixesOverlay 11 = .ok (.iload_n 2, 1) := by decide +kernel
theorem dX11_mixesOverlay_12 : decode cX11_mixesOverlay 12 = .ok (.invokevirtual 381, 3) := by decide +kernel
theorem dX11_mixesOverlay_15 : decode cX11_mixesOverlay 15 = .ok (.i2l, 1) := by decide +kernel
theorem dX11_mixesOverlay_16 : decode cX11_mixesOverlay 16 = .ok (.invokevirtual 384, 3) := by decide +kernel
theorem dX11_mixesOverlay_19 : decode cX11_mixesOverlay 19 = .ok (.iinc 2 1, 3) := by decide +kernel
theorem dX11_mixesOverlay_22 : decode cX11_mixesOverlay 22 = .ok (.goto (-20), 3) := by decide +kernel
theorem dX11_mixesOverlay_25 : decode cX11_mixesOverlay 25 = .ok (.iconst 0, 1) := by decide +kernel
theorem dX11_mixesOverlay_26 : decode cX11_mixesOverlay 26 = .ok (.istore_n 2, 1) := by decide +kernel
theorem dX11_mixesOverlay_27 : decode cX11_mixesOverlay 27 = .ok (.iload_n 2, 1) := by decide +kernel
theorem dX11_mixesOverlay_28 : decode cX11_mixesOverlay 28 = .ok (.aload_n 0, 1) := by decide +kernel
theorem dX11_mixesOverlay_29 : decode cX11_mixesOverlay 29 = .ok (.getfield 235, 3) := by decide +kernel
theorem dX11_mixesOverlay_32 : decode cX11_mixesOverlay 32 = .ok (.if_icmp .ge 76, 3) := by decide +kernel
theorem dX11_mixesOverlay_35 : decode cX11_mixesOverlay 35 = .ok (.iconst 0, 1) := by decide +kernel
theorem dX11_mixesOverlay_36 : decode cX11_mixesOverlay 36 = .ok (.istore_n 3, 1) := by decide +kernel
theorem dX11_mixesOverlay_37 : decode cX11_mixesOverlay 37 = .ok (.iload_n 3, 1) := by decide +kernel
theorem dX11_mixesOverlay_38 : decode cX11_mixesOverlay 38 = .ok (.bipush 7, 2) := by decide +kernel
theorem dX11_mixesOverlay_40 : decode cX11_mixesOverlay 40 = .ok (.if_icmp .ge 20, 3) := by decide +kernel
theorem dX11_mixesOverlay_43 : decode cX11_mixesOverlay 43 = .ok (.aload_n 0, 1) := by decide +kernel
theorem dX11_mixesOverlay_44 : decode cX11_mixesOverlay 44 = .ok (.aload_n 0, 1) := by decide +kernel
theorem dX11_mixesOverlay_45 : decode cX11_mixesOverlay 45 = .ok (.iload_n 2, 1) := by decide +kernel
theorem dX11_mixesOverlay_46 : decode cX11_mixesOverlay 46 = .ok (.iload_n 3, 1) := by decide +kernel
theorem dX11_mixesOverlay_47 : decode cX11_mixesOverlay 47 = .ok (.invokevirtual 354, 3) := by decide +kernel
theorem dX11_mixesOverlay_50 : decode cX11_mixesOverlay 50 = .ok (.i2l, 1) := by decide +kernel
theorem dX11_mixesOverlay_51 : decode cX11_mixesOverlay 51 = .ok (.invokevirtual 384, 3) := by decide +kernel
theorem dX11_mixesOverlay_54 : decode cX11_mixesOverlay 54 = .ok (.iinc 3 1, 3) := by decide +kernel
theorem dX11_mixesOverlay_57 : decode cX11_mixesOverlay 57 = .ok (.goto (-20), 3) := by decide +kernel
theorem dX11_mixesOverlay_60 : decode cX11_mixesOverlay 60 = .ok (.aload_n 0, 1) := by decide +kernel
theorem dX11_mixesOverlay_61 : decode cX11_mixesOverlay 61 = .ok (.aload_n 0, 1) := by decide +kernel
theorem dX11_mixesOverlay_62 : decode cX11_mixesOverlay 62 = .ok (.iload_n 2, 1) := by decide +kernel
theorem dX11_mixesOverlay_63 : decode cX11_mixesOverlay 63 = .ok (.invokevirtual 256, 3) := by decide +kernel
theorem dX11_mixesOverlay_66 : decode cX11_mixesOverlay 66 = .ok (.invokevirtual 384, 3) := by decide +kernel
theorem dX11_mixesOverlay_69 : decode cX11_mixesOverlay 69 = .ok (.iconst 0, 1) := by decide +kernel
theorem dX11_mixesOverlay_70 : decode cX11_mixesOverlay 70 = .ok (.istore_n 3, 1) := by decide +kernel
theorem dX11_mixesOverlay_71 : decode cX11_mixesOverlay 71 = .ok (.iload_n 3, 1) := by decide +kernel
theorem dX11_mixesOverlay_72 : decode cX11_mixesOverlay 72 = .ok (.aload_n 0, 1) := by decide +kernel
theorem dX11_mixesOverlay_73 : decode cX11_mixesOverlay 73 = .ok (.getfield 58, 3) := by decide +kernel
theorem dX11_mixesOverlay_76 : decode cX11_mixesOverlay 76 = .ok (.iload_n 2, 1) := by decide +kernel
theorem dX11_mixesOverlay_77 : decode cX11_mixesOverlay 77 = .ok (.iaload, 1) := by decide +kernel
theorem dX11_mixesOverlay_78 : decode cX11_mixesOverlay 78 = .ok (.if_icmp .ge 24, 3) := by decide +kernel
theorem dX11_mixesOverlay_81 : decode cX11_mixesOverlay 81 = .ok (.aload_n 0, 1) := by decide +kernel
theorem dX11_mixesOverlay_82 : decode cX11_mixesOverlay 82 = .ok (.aload_n 0, 1) := by decide +kernel
theorem dX11_mixesOverlay_83 : decode cX11_mixesOverlay 83 = .ok (.getfield 61, 3) := by decide +kernel
theorem dX11_mixesOverlay_86 : decode cX11_mixesOverlay 86 = .ok (.iconst 4, 1) := by decide +kernel
theorem dX11_mixesOverlay_87 : decode cX11_mixesOverlay 87 = .ok (.iload_n 2, 1) := by decide +kernel
theorem dX11_mixesOverlay_88 : decode cX11_mixesOverlay 88 = .ok (.imul, 1) := by decide +kernel
theorem dX11_mixesOverlay_89 : decode cX11_mixesOverlay 89 = .ok (.iload_n 3, 1) := by decide +kernel
theorem dX11_mixesOverlay_90 : decode cX11_mixesOverlay 90 = .ok (.iadd, 1) := by decide +kernel
theorem dX11_mixesOverlay_91 : decode cX11_mixesOverlay 91 = .ok (.iaload, 1) := by decide +kernel
theorem dX11_mixesOverlay_92 : decode cX11_mixesOverlay 92 = .ok (.i2l, 1) := by decide +kernel
theorem dX11_mixesOverlay_93 : decode cX11_mixesOverlay 93 = .ok (.invokevirtual 384, 3) := by decide +kernel
theorem dX11_mixesOverlay_96 : decode cX11_mixesOverlay 96 = .ok (.iinc 3 1, 3) := by decide +kernel
theorem dX11_mixesOverlay_99 : decode cX11_mixesOverlay 99 = .ok (.goto (-28), 3) := by decide +kernel
theorem dX11_mixesOverlay_102 : decode cX11_mixesOverlay 102 = .ok (.iinc 2 1, 3) := by decide +kernel
theorem dX11_mixesOverlay_105 : decode cX11_mixesOverlay 105 = .ok (.goto (-78), 3) := by decide +kernel
theorem dX11_mixesOverlay_108 : decode cX11_mixesOverlay 108 = .ok (.return_, 1) := by decide +kernel
theorem vc_X11_mixesOverlay_0 {G : zG} {d : Nat} {Q : Option zV → zHp → Prop} (p1 : Int) (h : zHp) (hS : zSh h) (hd : 6 ≤ d) (I_2 : Int → Int → zHp → Prop) (hI_2 : ∀ (y1 : Int) (y2 : Int) (h' : zHp), I_2 y1 y2 h' → wpN G d M_X11_mixesOverlay 2 [(0, vR 343), (1, vI y1), (2, vI y2)] [] h' Q) 
    (hv : (zSh h → I_2 p1 0 h)) : wpN G d M_X11_mixesOverlay 0 [(0, vR 343), (1, vI p1)] [] h Q := by
  refine wq_iconst (z := 0) (zlit rfl) dX11_mixesOverlay_0 ?_
  refine wq_istore_n (ls' := [(0, vR 343), (1, vI p1), (2, vI 0)]) rfl (by decide) rfl dX11_mixesOverlay_1 ?_
  exact wq_pick [0, 1, 2] rfl (hI_2 p1 0 h (hv hS))
theorem vc_X11_mixesOverlay_2 {G : zG} {d : Nat} {Q : Option zV → zHp → Prop} (y1 : Int) (y2 : Int) (h : zHp) (hS : zSh h) (hd : 6 ≤ d) (I_2 : Int → Int → zHp → Prop) (hI_2 : ∀ (y1 : Int) (y2 : Int) (h' : zHp), I_2 y1 y2 h' → wpN G d M_X11_mixesOverlay 2 [(0, vR 343), (1, vI y1), (2, vI y2)] [] h' Q) (I_27 : Int → Int → zHp → Prop) (hI_27 : ∀ (y1 : Int) (y2 : Int) (h' : zHp), I_27 y1 y2 h' → wpN G d M_X11_mixesOverlay 27 [(0, vR 343), (1, vI y1), (2, vI y2)] [] h' Q) 
    (hv : ((6 ≤ y2 → (zSh h → I_27 y1 0 h)) ∧ (y2 < 6 → (wpN G (d - 1) M_X11_overlay 0 (zar 0 [vR 343, vI y1, vI y2]) [] h (qI (fun z2 h3 => zSh h3 ∧ (wpN G (d - 1) M_X11_mixes 0 (zar 0 [vR 343, vL z2]) [] h3 (qV (fun h7 => zSh h7 ∧ ((-2147483648 ≤ y2 + 1 ∧ y2 + 1 ≤ 2147483647) ∧ ∀ x10 : Int, x10 = y2 + 1 → (zSh h7 → I_2 y1 x10 h7))))))))))) : wpN G d M_X11_mixesOverlay 2 [(0, vR 343), (1, vI y1), (2, vI y2)] [] h Q := by
  refine wq_iload_n 2 rfl rfl dX11_mixesOverlay_2 ?_
  refine wq_bipush (z := 6) (zlit rfl) rfl dX11_mixesOverlay_3 ?_
  refine wq_icmp_ge 25 rfl dX11_mixesOverlay_5 (fun c1 => ?_) (fun c1 => ?_)
  · refine wq_iconst (z := 0) (zlit rfl) dX11_mixesOverlay_25 ?_
    refine wq_istore_n (ls' := [(0, vR 343), (1, vI y1), (2, vI 0)]) rfl (by decide) rfl dX11_mixesOverlay_26 ?_
    exact wq_pick [0, 1, 2] rfl (hI_27 y1 0 h ((hv.1 c1) hS))
  · refine wq_aload_n 0 rfl rfl dX11_mixesOverlay_8 ?_
    refine wq_aload_n 0 rfl rfl dX11_mixesOverlay_9 ?_
    refine wq_iload_n 1 rfl rfl dX11_mixesOverlay_10 ?_
    refine wq_iload_n 2 rfl rfl dX11_mixesOverlay_11 ?_
    refine wN_V (As := [vI y1, vI y2]) vm_X11_overlay lk_X11_381 tT_343 rfl rfl (Nat.le_of_ble_eq_true rfl) (Nat.le_of_ble_eq_true rfl) (d' := d - 1) (by omega) dX11_mixesOverlay_12 (hv.2 c1) (fun v9 h3 q4 => ?_)
    obtain ⟨z2, rfl, hS5, q4⟩ := q4
    refine wq_st (st' := [vI z2, vR 343]) rfl ?_
    refine wq_i2l dX11_mixesOverlay_15 ?_
    refine wN_V (As := [vL z2]) vm_X11_mixes lk_X11_384 tT_343 rfl rfl (Nat.le_of_ble_eq_true rfl) (Nat.le_of_ble_eq_true rfl) (d' := d - 1) (by omega) dX11_mixesOverlay_16 q4 (fun v9 h7 q8 => ?_)
    obtain ⟨rfl, hS9, q8⟩ := q8
    refine wq_st (st' := []) rfl ?_
    refine z_nm (y2 + 1) (fun x10 e11 => ?_)
    refine wq_iinc (y := x10) (ls' := [(0, vR 343), (1, vI y1), (2, vI x10)]) 2 rfl e11.symm (by rw [e11]; exact q8.1) (by decide) rfl dX11_mixesOverlay_19 ?_
    refine wq_goto 2 rfl dX11_mixesOverlay_22 ?_
    exact wq_pick [0, 1, 2] rfl (hI_2 y1 x10 h7 ((q8.2 x10 e11) hS9))
theorem vc_X11_mixesOverlay_27 {G : zG} {d : Nat} {Q : Option zV → zHp → Prop} (y1 : Int) (y2 : Int) (h : zHp) (hS : zSh h) (hd : 6 ≤ d) (I_37 : Int → Int → Int → zHp → Prop) (hI_37 : ∀ (y1 : Int) (y2 : Int) (y3 : Int) (h' : zHp), I_37 y1 y2 y3 h' → wpN G d M_X11_mixesOverlay 37 [(0, vR 343), (1, vI y1), (2, vI y2), (3, vI y3)] [] h' Q) 
    (hv : (((gI h 343 31) ≤ y2 → Q none h) ∧ (y2 < (gI h 343 31) → (zSh h → I_37 y1 y2 0 h)))) : wpN G d M_X11_mixesOverlay 27 [(0, vR 343), (1, vI y1), (2, vI y2)] [] h Q := by
  refine wq_iload_n 2 rfl rfl dX11_mixesOverlay_27 ?_
  refine wq_aload_n 0 rfl rfl dX11_mixesOverlay_28 ?_
  refine wq_getI fk_X11_235 tT_343 (fun _ _ _ => rfl) dX11_mixesOverlay_29 ?_
  refine wq_icmp_ge 108 rfl dX11_mixesOverlay_32 (fun c1 => ?_) (fun c1 => ?_)
  · exact wp_vret rfl dX11_mixesOverlay_108 (hv.1 c1)
  · refine wq_iconst (z := 0) (zlit rfl) dX11_mixesOverlay_35 ?_
    refine wq_istore_n (ls' := [(0, vR 343), (1, vI y1), (2, vI y2), (3, vI 0)]) rfl (by decide) rfl dX11_mixesOverlay_36 ?_
    exact wq_pick [0, 1, 2, 3] rfl (hI_37 y1 y2 0 h ((hv.2 c1) hS))
theorem vc_X11_mixesOverlay_37 {G : zG} {d : Nat} {Q : Option zV → zHp → Prop} (y1 : Int) (y2 : Int) (y3 : Int) (h : zHp) (hS : zSh h) (hd : 6 ≤ d) (I_37 : Int → Int → Int → zHp → Prop) (hI_37 : ∀ (y1 : Int) (y2 : Int) (y3 : Int) (h' : zHp), I_37 y1 y2 y3 h' → wpN G d M_X11_mixesOverlay 37 [(0, vR 343), (1, vI y1), (2, vI y2), (3, vI y3)] [] h' Q) (I_71 : Int → Int → Int → zHp → Prop) (hI_71 : ∀ (y1 : Int) (y2 : Int) (y3 : Int) (h' : zHp), I_71 y1 y2 y3 h' → wpN G d M_X11_mixesOverlay 71 [(0, vR 343), (1, vI y1), (2, vI y2), (3, vI y3)] [] h' Q) 
    (hv : ((7 ≤ y3 → (wpN G (d - 1) M_X11_valueOf 0 (zar 0 [vR 343, vI y2]) [] h (qL (fun z2 h3 => zSh h3 ∧ (wpN G (d - 1) M_X11_mixes 0 (zar 0 [vR 343, vL z2]) [] h3 (qV (fun h7 => zSh h7 ∧ (zSh h7 → I_71 y1 y2 0 h7)))))))) ∧ (y3 < 7 → (wpN G (d - 1) M_X11_partOf 0 (zar 0 [vR 343, vI y2, vI y3]) [] h (qI (fun z10 h11 => zSh h11 ∧ (wpN G (d - 1) M_X11_mixes 0 (zar 0 [vR 343, vL z10]) [] h11 (qV (fun h15 => zSh h15 ∧ ((-2147483648 ≤ y3 + 1 ∧ y3 + 1 ≤ 2147483647) ∧ ∀ x18 : Int, x18 = y3 + 1 → (zSh h15 → I_37 y1 y2 x18 h15))))))))))) : wpN G d M_X11_mixesOverlay 37 [(0, vR 343), (1, vI y1), (2, vI y2), (3, vI y3)] [] h Q := by
  refine wq_iload_n 3 rfl rfl dX11_mixesOverlay_37 ?_
  refine wq_bipush (z := 7) (zlit rfl) rfl dX11_mixesOverlay_38 ?_
  refine wq_icmp_ge 60 rfl dX11_mixesOverlay_40 (fun c1 => ?_) (fun c1 => ?_)
  · refine wq_aload_n 0 rfl rfl dX11_mixesOverlay_60 ?_
    refine wq_aload_n 0 rfl rfl dX11_mixesOverlay_61 ?_
    refine wq_iload_n 2 rfl rfl dX11_mixesOverlay_62 ?_
    refine wN_V (As := [vI y2]) vm_X11_valueOf lk_X11_256 tT_343 rfl rfl (Nat.le_of_ble_eq_true rfl) (Nat.le_of_ble_eq_true rfl) (d' := d - 1) (by omega) dX11_mixesOverlay_63 (hv.1 c1) (fun v9 h3 q4 => ?_)
    obtain ⟨z2, rfl, hS5, q4⟩ := q4
    refine wq_st (st' := [vL z2, vR 343]) rfl ?_
    refine wN_V (As := [vL z2]) vm_X11_mixes lk_X11_384 tT_343 rfl rfl (Nat.le_of_ble_eq_true rfl) (Nat.le_of_ble_eq_true rfl) (d' := d - 1) (by omega) dX11_mixesOverlay_66 q4 (fun v9 h7 q8 => ?_)
    obtain ⟨rfl, hS9, q8⟩ := q8
    refine wq_st (st' := []) rfl ?_
    refine wq_iconst (z := 0) (zlit rfl) dX11_mixesOverlay_69 ?_
    refine wq_istore_n (ls' := [(0, vR 343), (1, vI y1), (2, vI y2), (3, vI 0)]) rfl (by decide) rfl dX11_mixesOverlay_70 ?_
    exact wq_pick [0, 1, 2, 3] rfl (hI_71 y1 y2 0 h7 (q8 hS9))
  · refine wq_aload_n 0 rfl rfl dX11_mixesOverlay_43 ?_
    refine wq_aload_n 0 rfl rfl dX11_mixesOverlay_44 ?_
    refine wq_iload_n 2 rfl rfl dX11_mixesOverlay_45 ?_
    refine wq_iload_n 3 rfl rfl dX11_mixesOverlay_46 ?_
    refine wN_V (As := [vI y2, vI y3]) vm_X11_partOf lk_X11_354 tT_343 rfl rfl (Nat.le_of_ble_eq_true rfl) (Nat.le_of_ble_eq_true rfl) (d' := d - 1) (by omega) dX11_mixesOverlay_47 (hv.2 c1) (fun v9 h11 q12 => ?_)
    obtain ⟨z10, rfl, hS13, q12⟩ := q12
    refine wq_st (st' := [vI z10, vR 343]) rfl ?_
    refine wq_i2l dX11_mixesOverlay_50 ?_
    refine wN_V (As := [vL z10]) vm_X11_mixes lk_X11_384 tT_343 rfl rfl (Nat.le_of_ble_eq_true rfl) (Nat.le_of_ble_eq_true rfl) (d' := d - 1) (by omega) dX11_mixesOverlay_51 q12 (fun v9 h15 q16 => ?_)
    obtain ⟨rfl, hS17, q16⟩ := q16
    refine wq_st (st' := []) rfl ?_
    refine z_nm (y3 + 1) (fun x18 e19 => ?_)
    refine wq_iinc (y := x18) (ls' := [(0, vR 343), (1, vI y1), (2, vI y2), (3, vI x18)]) 3 rfl e19.symm (by rw [e19]; exact q16.1) (by decide) rfl dX11_mixesOverlay_54 ?_
    refine wq_goto 37 rfl dX11_mixesOverlay_57 ?_
    exact wq_pick [0, 1, 2, 3] rfl (hI_37 y1 y2 x18 h15 ((q16.2 x18 e19) hS17))
theorem vc_X11_mixesOverlay_71 {G : zG} {d : Nat} {Q : Option zV → zHp → Prop} (y1 : Int) (y2 : Int) (y3 : Int) (h : zHp) (hS : zSh h) (hd : 6 ≤ d) (I_27 : Int → Int → zHp → Prop) (hI_27 : ∀ (y1 : Int) (y2 : Int) (h' : zHp), I_27 y1 y2 h' → wpN G d M_X11_mixesOverlay 27 [(0, vR 343), (1, vI y1), (2, vI y2)] [] h' Q) (I_71 : Int → Int → Int → zHp → Prop) (hI_71 : ∀ (y1 : Int) (y2 : Int) (y3 : Int) (h' : zHp), I_71 y1 y2 y3 h' → wpN G d M_X11_mixesOverlay 71 [(0, vR 343), (1, vI y1), (2, vI y2), (3, vI y3)] [] h' Q) 
    (hv : (((0 : Int) ≤ y2 ∧ y2 < ((60 : Nat) : Int)) ∧ (((gI h 360 y2.toNat) ≤ y3 → ((-2147483648 ≤ y2 + 1 ∧ y2 + 1 ≤ 2147483647) ∧ ∀ x2 : Int, x2 = y2 + 1 → (zSh h → I_27 y1 x2 h))) ∧ (y3 < (gI h 360 y2.toNat) → ((-2147483648 ≤ 4 * y2 ∧ 4 * y2 ≤ 2147483647) ∧ ((-2147483648 ≤ (4 * y2) + y3 ∧ (4 * y2) + y3 ≤ 2147483647) ∧ (((0 : Int) ≤ ((4 * y2) + y3) ∧ ((4 * y2) + y3) < ((240 : Nat) : Int)) ∧ (wpN G (d - 1) M_X11_mixes 0 (zar 0 [vR 343, vL (gI h 361 ((4 * y2) + y3).toNat)]) [] h (qV (fun h5 => zSh h5 ∧ ((-2147483648 ≤ y3 + 1 ∧ y3 + 1 ≤ 2147483647) ∧ ∀ x8 : Int, x8 = y3 + 1 → (zSh h5 → I_71 y1 y2 x8 h5)))))))))))) : wpN G d M_X11_mixesOverlay 71 [(0, vR 343), (1, vI y1), (2, vI y2), (3, vI y3)] [] h Q := by
  refine wq_iload_n 3 rfl rfl dX11_mixesOverlay_71 ?_
  refine wq_aload_n 0 rfl rfl dX11_mixesOverlay_72 ?_
  refine wq_getR fk_X11_58 tT_343 (fun _ _ _ => rfl) (sh_11_29 hS) (by decide) dX11_mixesOverlay_73 ?_
  refine wq_iload_n 2 rfl rfl dX11_mixesOverlay_76 ?_
  refine wq_iald tT_360 hv.1.1 hv.1.2 dX11_mixesOverlay_77 ?_
  refine wq_icmp_ge 102 rfl dX11_mixesOverlay_78 (fun c1 => ?_) (fun c1 => ?_)
  · refine z_nm (y2 + 1) (fun x2 e3 => ?_)
    refine wq_iinc (y := x2) (ls' := [(0, vR 343), (1, vI y1), (2, vI x2), (3, vI y3)]) 2 rfl e3.symm (by rw [e3]; exact (hv.2.1 c1).1) (by decide) rfl dX11_mixesOverlay_102 ?_
    refine wq_goto 27 rfl dX11_mixesOverlay_105 ?_
    exact wq_pick [0, 1, 2] rfl (hI_27 y1 x2 h (((hv.2.1 c1).2 x2 e3) hS))
  · refine wq_aload_n 0 rfl rfl dX11_mixesOverlay_81 ?_
    refine wq_aload_n 0 rfl rfl dX11_mixesOverlay_82 ?_
    refine wq_getR fk_X11_61 tT_343 (fun _ _ _ => rfl) (sh_11_30 hS) (by decide) dX11_mixesOverlay_83 ?_
    refine wq_iconst (z := 4) (zlit rfl) dX11_mixesOverlay_86 ?_
    refine wq_iload_n 2 rfl rfl dX11_mixesOverlay_87 ?_
    refine wq_imul (hv.2.2 c1).1 dX11_mixesOverlay_88 ?_
    refine wq_iload_n 3 rfl rfl dX11_mixesOverlay_89 ?_
    refine wq_iadd (hv.2.2 c1).2.1 dX11_mixesOverlay_90 ?_
    refine wq_iald tT_361 (hv.2.2 c1).2.2.1.1 (hv.2.2 c1).2.2.1.2 dX11_mixesOverlay_91 ?_
    refine wq_i2l dX11_mixesOverlay_92 ?_
    refine wN_V (As := [vL (gI h 361 ((4 * y2) + y3).toNat)]) vm_X11_mixes lk_X11_384 tT_343 rfl rfl (Nat.le_of_ble_eq_true rfl) (Nat.le_of_ble_eq_true rfl) (d' := d - 1) (by omega) dX11_mixesOverlay_93 (hv.2.2 c1).2.2.2 (fun v9 h5 q6 => ?_)
    obtain ⟨rfl, hS7, q6⟩ := q6
    refine wq_st (st' := []) rfl ?_
    refine z_nm (y3 + 1) (fun x8 e9 => ?_)
    refine wq_iinc (y := x8) (ls' := [(0, vR 343), (1, vI y1), (2, vI y2), (3, vI x8)]) 3 rfl e9.symm (by rw [e9]; exact q6.1) (by decide) rfl dX11_mixesOverlay_96 ?_
    refine wq_goto 71 rfl dX11_mixesOverlay_99 ?_
    exact wq_pick [0, 1, 2, 3] rfl (hI_71 y1 y2 x8 h5 ((q6.2 x8 e9) hS7))
