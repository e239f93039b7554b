theorem dX10_digest_0 : decode cX10_digest 0 = .ok (.aload_n 0, 1) := by decide +kernel
theorem dX10_digest_1 : decode cX10_digest 1 = .ok (.getfield 27, 3) := by decide +kernel
theorem dX10_digest_4 : decode cX10_digest 4 = .ok (.getfield 69, 3) := by decide +kernel
theorem dX10_digest_7 : decode cX10_digest 7 = .ok (.astore_n 1, 1) := by decide +kernel
theorem dX10_digest_8 : decode cX10_digest 8 = .ok (.ldc2_w 257, 3) := by decide +kernel
theorem dX10_digest_11 : decode cX10_digest 11 = .ok (.aload_n 1, 1) := by decide +kernel
theorem dX10_digest_12 : decode cX10_digest 12 = .ok (.getfield 95, 3) := by decide +kernel
theorem dX10_digest_15 : decode cX10_digest 15 = .ok (.i2l, 1) := by decide +kernel
theorem dX10_digest_16 : decode cX10_digest 16 = .ok (.invokestatic 259, 3) := by decide +kernel
theorem dX10_digest_19 : decode cX10_digest 19 = .ok (.lstore_n 2, 1) := by decide +kernel
theorem dX10_digest_20 : decode cX10_digest 20 = .ok (.iconst 0, 1) := by decide +kernel
theorem dX10_digest_21 : decode cX10_digest 21 = .ok (.istore 4, 2) := by decide +kernel
theorem dX10_digest_23 : decode cX10_digest 23 = .ok (.iload 4, 2) := by decide +kernel
theorem dX10_digest_25 : decode cX10_digest 25 = .ok (.aload_n 1, 1) := by decide +kernel
theorem dX10_digest_26 : decode cX10_digest 26 = .ok (.getfield 95, 3) := by decide +kernel
theorem dX10_digest_29 : decode cX10_digest 29 = .ok (.if_icmp .ge 21, 3) := by decide +kernel
theorem dX10_digest_32 : decode cX10_digest 32 = .ok (.lload_n 2, 1) := by decide +kernel
theorem dX10_digest_33 : decode cX10_digest 33 = .ok (.aload_n 1, 1) := by decide +kernel
theorem dX10_digest_34 : decode cX10_digest 34 = .ok (.iload 4, 2) := by decide +kernel
theorem dX10_digest_36 : decode cX10_digest 36 = .ok (.invokevirtual 119, 3) := by decide +kernel
theorem dX10_digest_39 : decode cX10_digest 39 = .ok (.i2l, 1) := by decide +kernel
theorem dX10_digest_40 : decode cX10_digest 40 = .ok (.invokestatic 259, 3) := by decide +kernel
theorem dX10_digest_43 : decode cX10_digest 43 = .ok (.lstore_n 2, 1) := by decide +kernel
theorem dX10_digest_44 : decode cX10_digest 44 = .ok (.iinc 4 1, 3) := by decide +kernel
theorem dX10_digest_47 : decode cX10_digest 47 = .ok (.goto (-24), 3) := by decide +kernel
theorem dX10_digest_50 : decode cX10_digest 50 = .ok (.iconst 0, 1) := by decide +kernel
theorem dX10_digest_51 : decode cX10_digest 51 = .ok (.istore 4, 2) := by decide +kernel
theorem dX10_digest_53 : decode cX10_digest 53 = .ok (.iload 4, 2) := by decide +kernel
theorem dX10_digest_55 : decode cX10_digest 55 = .ok (.iconst 4, 1) := by decide +kernel
theorem dX10_digest_56 : decode cX10_digest 56 = .ok (.if_icmp .ge 36, 3) := by decide +kernel
theorem dX10_digest_59 : decode cX10_digest 59 = .ok (.aload_n 0, 1) := by decide +kernel
theorem dX10_digest_60 : decode cX10_digest 60 = .ok (.iload 4, 2) := by decide +kernel
theorem dX10_digest_62 : decode cX10_digest 62 = .ok (.invokevirtual 169, 3) := by decide +kernel
theorem dX10_digest_65 : decode cX10_digest 65 = .ok (.ifCond .eq 13, 3) := by decide +kernel
theorem dX10_digest_68 : decode cX10_digest 68 = .ok (.aload_n 0, 1) := by decide +kernel
theorem dX10_digest_69 : decode cX10_digest 69 = .ok (.lload_n 2, 1) := by decide +kernel
theorem dX10_digest_70 : decode cX10_digest 70 = .ok (.iload 4, 2) := by decide +kernel
theorem dX10_digest_72 : decode cX10_digest 72 = .ok (.invokevirtual 263, 3) := by decide +kernel
theorem dX10_digest_75 : decode cX10_digest 75 = .ok (.goto 10, 3) := by decide +kernel
theorem dX10_digest_78 : decode cX10_digest 78 = .ok (.lload_n 2, 1) := by decide +kernel
theorem dX10_digest_79 : decode cX10_digest 79 = .ok (.ldc2_w 267, 3) := by decide +kernel
theorem dX10_digest_82 : decode cX10_digest 82 = .ok (.invokestatic 259, 3) := by decide +kernel
theorem dX10_digest_85 : decode cX10_digest 85 = .ok (.lstore_n 2, 1) := by decide +kernel
theorem dX10_digest_86 : decode cX10_digest 86 = .ok (.iinc 4 1, 3) := by decide +kernel
theorem dX10_digest_89 : decode cX10_digest 89 = .ok (.goto (-36), 3) := by decide +kernel
theorem dX10_digest_92 : decode cX10_digest 92 = .ok (.iconst 0, 1) := by decide +kernel
theorem dX10_digest_93 : decode cX10_digest 93 = .ok (.istore 4, 2) := by decide +kernel
theorem dX10_digest_95 : decode cX10_digest 95 = .ok (.iload 4, 2) := by decide +kernel
theorem dX10_digest_97 : decode cX10_digest 97 = .ok (.iconst 4, 1) := by decide +kernel
theorem dX10_digest_98 : decode cX10_digest 98 = .ok (.if_icmp .ge 25, 3) := by decide +kernel
theorem dX10_digest_101 : decode cX10_digest 101 = .ok (.lload_n 2, 1) := by decide +kernel
theorem dX10_digest_102 : decode cX10_digest 102 = .ok (.aload_n 0, 1) := by decide +kernel
theorem dX10_digest_103 : decode cX10_digest 103 = .ok (.getfield 42, 3) := by decide +kernel
theorem dX10_digest_106 : decode cX10_digest 106 = .ok (.iload 4, 2) := by decide +kernel
theorem dX10_digest_108 : decode cX10_digest 108 = .ok (.aaload, 1) := by decide +kernel
theorem dX10_digest_109 : decode cX10_digest 109 = .ok (.getfield 106, 3) := by decide +kernel
theorem dX10_digest_112 : decode cX10_digest 112 = .ok (.i2l, 1) := by decide +kernel
theorem dX10_digest_113 : decode cX10_digest 113 = .ok (.invokestatic 259, 3) := by decide +kernel
theorem dX10_digest_116 : decode cX10_digest 116 = .ok (.lstore_n 2, 1) := by decide +kernel
theorem dX10_digest_117 : decode cX10_digest 117 = .ok (.iinc 4 1, 3) := by decide +kernel
theorem dX10_digest_120 : decode cX10_digest 120 = .ok (.goto (-25), 3) := by decide +kernel
theorem dX10_digest_123 : decode cX10_digest 123 = .ok (.iconst 0, 1) := by decide +kernel
theorem dX10_digest_124 : decode cX10_digest 124 = .ok (.istore 4, 2) := by decide +kernel
theorem dX10_digest_126 : decode cX10_digest 126 = .ok (.iload 4, 2) := by decide +kernel
theorem dX10_digest_128 : decode cX10_digest 128 = .ok (.bipush 7, 2) := by decide +kernel
theorem dX10_digest_130 : decode cX10_digest 130 = .ok (.if_icmp .gt 21, 3) := by decide +kernel
theorem dX10_digest_133 : decode cX10_digest 133 = .ok (.lload_n 2, 1) := by decide +kernel
theorem dX10_digest_134 : decode cX10_digest 134 = .ok (.aload_n 0, 1) := by decide +kernel
theorem dX10_digest_135 : decode cX10_digest 135 = .ok (.iload 4, 2) := by decide +kernel
theorem dX10_digest_137 : decode cX10_digest 137 = .ok (.invokevirtual 254, 3) := by decide +kernel
theorem dX10_digest_140 : decode cX10_digest 140 = .ok (.i2l, 1) := by decide +kernel
theorem dX10_digest_141 : decode cX10_digest 141 = .ok (.invokestatic 259, 3) := by decide +kernel
theorem dX10_digest_144 : decode cX10_digest 144 = .ok (.lstore_n 2, 1) := by decide +kernel
theorem dX10_digest_145 : decode cX10_digest 145 = .ok (.iinc 4 1, 3) := by decide +kernel
theorem dX10_digest_148 : decode cX10_digest 148 = .ok (.goto (-22), 3) := by decide +kernel
theorem dX10_digest_151 : decode cX10_digest 151 = .ok (.lload_n 2, 1) := by decide +kernel
theorem dX10_digest_152 : decode cX10_digest 152 = .ok (.lreturn, 1) := by decide +kernel
theorem vc_X10_digest_0 {G : zG} {d : Nat} {Q : Option zV → zHp → Prop}  (h : zHp) (hS : zSh h) (hd : 8 ≤ d) (I_23 : Int → Int → zHp → Prop) (hI_23 : ∀ (y2 : Int) (y4 : Int) (h' : zHp), I_23 y2 y4 h' → wpN G d M_X10_digest 23 [(0, vR 1), (1, vR 9), (2, vL y2), (4, vI y4)] [] h' Q) 
    (hv : (wpN G (d - 1) M_X10_mix 0 (zar 0 [vL 11, vL (gI h 9 1)]) [] h (qL (fun z1 h2 => zSh h2 ∧ (zSh h2 → I_23 z1 0 h2))))) : wpN G d M_X10_digest 0 [(0, vR 1)] [] h Q := by
  refine wq_aload_n 0 rfl rfl dX10_digest_0 ?_
  refine wq_getR fk_X10_27 tT_1 (fun _ _ _ => rfl) (sh_10_3 hS) (by decide) dX10_digest_1 ?_
  refine wq_getR (r := 9) fk_X10_69 tT_8 (fun _ _ _ => rfl) (sh_2_0 hS tT_8) (by decide) dX10_digest_4 ?_
  refine wq_astore_n (ls' := [(0, vR 1), (1, vR 9)]) rfl (by decide) rfl dX10_digest_7 ?_
  refine wq_ldc2_w (z := 11) (zlitL rfl) kc_X10_257 dX10_digest_8 ?_
  refine wq_aload_n 1 rfl rfl dX10_digest_11 ?_
  refine wq_getI fk_X10_95 tT_9 (fun _ _ _ => rfl) dX10_digest_12 ?_
  refine wq_i2l dX10_digest_15 ?_
  refine wN_S (As := [vL 11, vL (gI h 9 1)]) md_X10_mix ms_X10_mix lk_X10_259 rfl rfl (Nat.le_of_ble_eq_true rfl) (Nat.le_of_ble_eq_true rfl) (d' := d - 1) (by omega) dX10_digest_16 hv (fun v9 h2 q3 => ?_)
  obtain ⟨z1, rfl, hS4, q3⟩ := q3
  refine wq_st (st' := [vL z1]) rfl ?_
  refine wq_lstore_n (ls' := [(0, vR 1), (1, vR 9), (2, vL z1)]) rfl (by decide) rfl dX10_digest_19 ?_
  refine wq_iconst (z := 0) (zlit rfl) dX10_digest_20 ?_
  refine wq_istore (ls' := [(0, vR 1), (1, vR 9), (2, vL z1), (4, vI 0)]) (by decide) rfl dX10_digest_21 ?_
  exact wq_pick [0, 1, 2, 3] rfl (hI_23 z1 0 h2 (q3 hS4))
theorem vc_X10_digest_23 {G : zG} {d : Nat} {Q : Option zV → zHp → Prop} (y2 : Int) (y4 : Int) (h : zHp) (hS : zSh h) (hd : 8 ≤ d) (I_23 : Int → Int → zHp → Prop) (hI_23 : ∀ (y2 : Int) (y4 : Int) (h' : zHp), I_23 y2 y4 h' → wpN G d M_X10_digest 23 [(0, vR 1), (1, vR 9), (2, vL y2), (4, vI y4)] [] h' Q) (I_53 : Int → Int → zHp → Prop) (hI_53 : ∀ (y2 : Int) (y4 : Int) (h' : zHp), I_53 y2 y4 h' → wpN G d M_X10_digest 53 [(0, vR 1), (1, vR 9), (2, vL y2), (4, vI y4)] [] h' Q) 
    (hv : (((gI h 9 1) ≤ y4 → (zSh h → I_53 y2 0 h)) ∧ (y4 < (gI h 9 1) → (wpN G (d - 1) M_X0_get 0 (zar 0 [vR 9, vI y4]) [] h (qI (fun z2 h3 => zSh h3 ∧ (wpN G (d - 1) M_X10_mix 0 (zar 0 [vL y2, vL z2]) [] h3 (qL (fun z6 h7 => zSh h7 ∧ ((-2147483648 ≤ y4 + 1 ∧ y4 + 1 ≤ 2147483647) ∧ ∀ x10 : Int, x10 = y4 + 1 → (zSh h7 → I_23 z6 x10 h7))))))))))) : wpN G d M_X10_digest 23 [(0, vR 1), (1, vR 9), (2, vL y2), (4, vI y4)] [] h Q := by
  refine wq_iload 3 rfl dX10_digest_23 ?_
  refine wq_aload_n 1 rfl rfl dX10_digest_25 ?_
  refine wq_getI fk_X10_95 tT_9 (fun _ _ _ => rfl) dX10_digest_26 ?_
  refine wq_icmp_ge 50 rfl dX10_digest_29 (fun c1 => ?_) (fun c1 => ?_)
  · refine wq_iconst (z := 0) (zlit rfl) dX10_digest_50 ?_
    refine wq_istore (ls' := [(0, vR 1), (1, vR 9), (2, vL y2), (4, vI 0)]) (by decide) rfl dX10_digest_51 ?_
    exact wq_pick [0, 1, 2, 3] rfl (hI_53 y2 0 h ((hv.1 c1) hS))
  · refine wq_lload_n 2 rfl rfl dX10_digest_32 ?_
    refine wq_aload_n 1 rfl rfl dX10_digest_33 ?_
    refine wq_iload 3 rfl dX10_digest_34 ?_
    refine wN_V (As := [vI y4]) vm_X0_get lk_X10_119 tT_9 rfl rfl (Nat.le_of_ble_eq_true rfl) (Nat.le_of_ble_eq_true rfl) (d' := d - 1) (by omega) dX10_digest_36 (hv.2 c1) (fun v9 h3 q4 => ?_)
    obtain ⟨z2, rfl, hS5, q4⟩ := q4
    refine wq_st (st' := [vI z2, vL y2]) rfl ?_
    refine wq_i2l dX10_digest_39 ?_
    refine wN_S (As := [vL y2, vL z2]) md_X10_mix ms_X10_mix lk_X10_259 rfl rfl (Nat.le_of_ble_eq_true rfl) (Nat.le_of_ble_eq_true rfl) (d' := d - 1) (by omega) dX10_digest_40 q4 (fun v9 h7 q8 => ?_)
    obtain ⟨z6, rfl, hS9, q8⟩ := q8
    refine wq_st (st' := [vL z6]) rfl ?_
    refine wq_lstore_n (ls' := [(0, vR 1), (1, vR 9), (2, vL z6), (4, vI y4)]) rfl (by decide) rfl dX10_digest_43 ?_
    refine z_nm (y4 + 1) (fun x10 e11 => ?_)
    refine wq_iinc (y := x10) (ls' := [(0, vR 1), (1, vR 9), (2, vL z6), (4, vI x10)]) 3 rfl e11.symm (by rw [e11]; exact q8.1) (by decide) rfl dX10_digest_44 ?_
    refine wq_goto 23 rfl dX10_digest_47 ?_
    exact wq_pick [0, 1, 2, 3] rfl (hI_23 z6 x10 h7 ((q8.2 x10 e11) hS9))
theorem vc_X10_digest_53 {G : zG} {d : Nat} {Q : Option zV → zHp → Prop} (y2 : Int) (y4 : Int) (h : zHp) (hS : zSh h) (hd : 8 ≤ d) (I_53 : Int → Int → zHp → Prop) (hI_53 : ∀ (y2 : Int) (y4 : Int) (h' : zHp), I_53 y2 y4 h' → wpN G d M_X10_digest 53 [(0, vR 1), (1, vR 9), (2, vL y2), (4, vI y4)] [] h' Q) (I_95 : Int → Int → zHp → Prop) (hI_95 : ∀ (y2 : Int) (y4 : Int) (h' : zHp), I_95 y2 y4 h' → wpN G d M_X10_digest 95 [(0, vR 1), (1, vR 9), (2, vL y2), (4, vI y4)] [] h' Q) 
    (hv : ((4 ≤ y4 → (zSh h → I_95 y2 0 h)) ∧ (y4 < 4 → (wpN G (d - 1) M_X10_layOut 0 (zar 0 [vR 1, vI y4]) [] h (qI (fun z2 h3 => zSh h3 ∧ ((z2 = 0 → (wpN G (d - 1) M_X10_mix 0 (zar 0 [vL y2, vL (-1)]) [] h3 (qL (fun z7 h8 => zSh h8 ∧ ((-2147483648 ≤ y4 + 1 ∧ y4 + 1 ≤ 2147483647) ∧ ∀ x11 : Int, x11 = y4 + 1 → (zSh h8 → I_53 z7 x11 h8)))))) ∧ (z2 ≠ 0 → (wpN G (d - 1) M_X10_mixOverlay 0 (zar 0 [vR 1, vL y2, vI y4]) [] h3 (qL (fun z13 h14 => zSh h14 ∧ ((-2147483648 ≤ y4 + 1 ∧ y4 + 1 ≤ 2147483647) ∧ ∀ x17 : Int, x17 = y4 + 1 → (zSh h14 → I_53 z13 x17 h14))))))))))))) : wpN G d M_X10_digest 53 [(0, vR 1), (1, vR 9), (2, vL y2), (4, vI y4)] [] h Q := by
  refine wq_iload 3 rfl dX10_digest_53 ?_
  refine wq_iconst (z := 4) (zlit rfl) dX10_digest_55 ?_
  refine wq_icmp_ge 92 rfl dX10_digest_56 (fun c1 => ?_) (fun c1 => ?_)
  · refine wq_iconst (z := 0) (zlit rfl) dX10_digest_92 ?_
    refine wq_istore (ls' := [(0, vR 1), (1, vR 9), (2, vL y2), (4, vI 0)]) (by decide) rfl dX10_digest_93 ?_
    exact wq_pick [0, 1, 2, 3] rfl (hI_95 y2 0 h ((hv.1 c1) hS))
  · refine wq_aload_n 0 rfl rfl dX10_digest_59 ?_
    refine wq_iload 3 rfl dX10_digest_60 ?_
    refine wN_V (As := [vI y4]) vm_X10_layOut lk_X10_169 tT_1 rfl rfl (Nat.le_of_ble_eq_true rfl) (Nat.le_of_ble_eq_true rfl) (d' := d - 1) (by omega) dX10_digest_62 (hv.2 c1) (fun v9 h3 q4 => ?_)
    obtain ⟨z2, rfl, hS5, q4⟩ := q4
    refine wq_st (st' := [vI z2]) rfl ?_
    refine wq_if_eq 78 rfl dX10_digest_65 (fun c6 => ?_) (fun c6 => ?_)
    · refine wq_lload_n 2 rfl rfl dX10_digest_78 ?_
      refine wq_ldc2_w (z := -1) (zlitL rfl) kc_X10_267 dX10_digest_79 ?_
      refine wN_S (As := [vL y2, vL (-1)]) md_X10_mix ms_X10_mix lk_X10_259 rfl rfl (Nat.le_of_ble_eq_true rfl) (Nat.le_of_ble_eq_true rfl) (d' := d - 1) (by omega) dX10_digest_82 (q4.1 c6) (fun v9 h8 q9 => ?_)
      obtain ⟨z7, rfl, hS10, q9⟩ := q9
      refine wq_st (st' := [vL z7]) rfl ?_
      refine wq_lstore_n (ls' := [(0, vR 1), (1, vR 9), (2, vL z7), (4, vI y4)]) rfl (by decide) rfl dX10_digest_85 ?_
      refine z_nm (y4 + 1) (fun x11 e12 => ?_)
      refine wq_iinc (y := x11) (ls' := [(0, vR 1), (1, vR 9), (2, vL z7), (4, vI x11)]) 3 rfl e12.symm (by rw [e12]; exact q9.1) (by decide) rfl dX10_digest_86 ?_
      refine wq_goto 53 rfl dX10_digest_89 ?_
      exact wq_pick [0, 1, 2, 3] rfl (hI_53 z7 x11 h8 ((q9.2 x11 e12) hS10))
    · refine wq_aload_n 0 rfl rfl dX10_digest_68 ?_
      refine wq_lload_n 2 rfl rfl dX10_digest_69 ?_
      refine wq_iload 3 rfl dX10_digest_70 ?_
      refine wN_V (As := [vL y2, vI y4]) vm_X10_mixOverlay lk_X10_263 tT_1 rfl rfl (Nat.le_of_ble_eq_true rfl) (Nat.le_of_ble_eq_true rfl) (d' := d - 1) (by omega) dX10_digest_72 (q4.2 c6) (fun v9 h14 q15 => ?_)
      obtain ⟨z13, rfl, hS16, q15⟩ := q15
      refine wq_st (st' := [vL z13]) rfl ?_
      refine wq_goto 85 rfl dX10_digest_75 ?_
      refine wq_lstore_n (ls' := [(0, vR 1), (1, vR 9), (2, vL z13), (4, vI y4)]) rfl (by decide) rfl dX10_digest_85 ?_
      refine z_nm (y4 + 1) (fun x17 e18 => ?_)
      refine wq_iinc (y := x17) (ls' := [(0, vR 1), (1, vR 9), (2, vL z13), (4, vI x17)]) 3 rfl e18.symm (by rw [e18]; exact q15.1) (by decide) rfl dX10_digest_86 ?_
      refine wq_goto 53 rfl dX10_digest_89 ?_
      exact wq_pick [0, 1, 2, 3] rfl (hI_53 z13 x17 h14 ((q15.2 x17 e18) hS16))
theorem vc_X10_digest_95 {G : zG} {d : Nat} {Q : Option zV → zHp → Prop} (y2 : Int) (y4 : Int) (h : zHp) (hS : zSh h) (hd : 8 ≤ d) (I_95 : Int → Int → zHp → Prop) (hI_95 : ∀ (y2 : Int) (y4 : Int) (h' : zHp), I_95 y2 y4 h' → wpN G d M_X10_digest 95 [(0, vR 1), (1, vR 9), (2, vL y2), (4, vI y4)] [] h' Q) (I_126 : Int → Int → zHp → Prop) (hI_126 : ∀ (y2 : Int) (y4 : Int) (h' : zHp), I_126 y2 y4 h' → wpN G d M_X10_digest 126 [(0, vR 1), (1, vR 9), (2, vL y2), (4, vI y4)] [] h' Q) 
    (hv : ((4 ≤ y4 → (zSh h → I_126 y2 0 h)) ∧ (y4 < 4 → (((0 : Int) ≤ y4 ∧ y4 < ((4 : Nat) : Int)) ∧ (zT 369 (gR h 80 y4.toNat) = (108, 2) ∧ (wpN G (d - 1) M_X10_mix 0 (zar 0 [vL y2, vL (gI h (gR h 80 y4.toNat) 1)]) [] h (qL (fun z2 h3 => zSh h3 ∧ ((-2147483648 ≤ y4 + 1 ∧ y4 + 1 ≤ 2147483647) ∧ ∀ x6 : Int, x6 = y4 + 1 → (zSh h3 → I_95 z2 x6 h3)))))))))) : wpN G d M_X10_digest 95 [(0, vR 1), (1, vR 9), (2, vL y2), (4, vI y4)] [] h Q := by
  refine wq_iload 3 rfl dX10_digest_95 ?_
  refine wq_iconst (z := 4) (zlit rfl) dX10_digest_97 ?_
  refine wq_icmp_ge 123 rfl dX10_digest_98 (fun c1 => ?_) (fun c1 => ?_)
  · refine wq_iconst (z := 0) (zlit rfl) dX10_digest_123 ?_
    refine wq_istore (ls' := [(0, vR 1), (1, vR 9), (2, vL y2), (4, vI 0)]) (by decide) rfl dX10_digest_124 ?_
    exact wq_pick [0, 1, 2, 3] rfl (hI_126 y2 0 h ((hv.1 c1) hS))
  · refine wq_lload_n 2 rfl rfl dX10_digest_101 ?_
    refine wq_aload_n 0 rfl rfl dX10_digest_102 ?_
    refine wq_getR fk_X10_42 tT_1 (fun _ _ _ => rfl) (sh_10_5 hS) (by decide) dX10_digest_103 ?_
    refine wq_iload 3 rfl dX10_digest_106 ?_
    refine wq_aald tT_80 (by decide) (by decide) rfl (hv.2 c1).1.1 (hv.2 c1).1.2 rfl (zT_nz (hv.2 c1).2.1 (by decide)) dX10_digest_108 ?_
    refine wq_getI fk_X10_106 (hv.2 c1).2.1 (fun _ _ _ => rfl) dX10_digest_109 ?_
    refine wq_i2l dX10_digest_112 ?_
    refine wN_S (As := [vL y2, vL (gI h (gR h 80 y4.toNat) 1)]) md_X10_mix ms_X10_mix lk_X10_259 rfl rfl (Nat.le_of_ble_eq_true rfl) (Nat.le_of_ble_eq_true rfl) (d' := d - 1) (by omega) dX10_digest_113 (hv.2 c1).2.2 (fun v9 h3 q4 => ?_)
    obtain ⟨z2, rfl, hS5, q4⟩ := q4
    refine wq_st (st' := [vL z2]) rfl ?_
    refine wq_lstore_n (ls' := [(0, vR 1), (1, vR 9), (2, vL z2), (4, vI y4)]) rfl (by decide) rfl dX10_digest_116 ?_
    refine z_nm (y4 + 1) (fun x6 e7 => ?_)
    refine wq_iinc (y := x6) (ls' := [(0, vR 1), (1, vR 9), (2, vL z2), (4, vI x6)]) 3 rfl e7.symm (by rw [e7]; exact q4.1) (by decide) rfl dX10_digest_117 ?_
    refine wq_goto 95 rfl dX10_digest_120 ?_
    exact wq_pick [0, 1, 2, 3] rfl (hI_95 z2 x6 h3 ((q4.2 x6 e7) hS5))
theorem vc_X10_digest_126 {G : zG} {d : Nat} {Q : Option zV → zHp → Prop} (y2 : Int) (y4 : Int) (h : zHp) (hS : zSh h) (hd : 8 ≤ d) (I_126 : Int → Int → zHp → Prop) (hI_126 : ∀ (y2 : Int) (y4 : Int) (h' : zHp), I_126 y2 y4 h' → wpN G d M_X10_digest 126 [(0, vR 1), (1, vR 9), (2, vL y2), (4, vI y4)] [] h' Q) 
    (hv : ((7 < y4 → Q (some (vL y2)) h) ∧ (y4 ≤ 7 → (wpN G (d - 1) M_X10_numberOf 0 (zar 0 [vR 1, vI y4]) [] h (qI (fun z2 h3 => zSh h3 ∧ (wpN G (d - 1) M_X10_mix 0 (zar 0 [vL y2, vL z2]) [] h3 (qL (fun z6 h7 => zSh h7 ∧ ((-2147483648 ≤ y4 + 1 ∧ y4 + 1 ≤ 2147483647) ∧ ∀ x10 : Int, x10 = y4 + 1 → (zSh h7 → I_126 z6 x10 h7))))))))))) : wpN G d M_X10_digest 126 [(0, vR 1), (1, vR 9), (2, vL y2), (4, vI y4)] [] h Q := by
  refine wq_iload 3 rfl dX10_digest_126 ?_
  refine wq_bipush (z := 7) (zlit rfl) rfl dX10_digest_128 ?_
  refine wq_icmp_gt 151 rfl dX10_digest_130 (fun c1 => ?_) (fun c1 => ?_)
  · refine wq_lload_n 2 rfl rfl dX10_digest_151 ?_
    exact wp_lret rfl dX10_digest_152 (hv.1 c1)
  · refine wq_lload_n 2 rfl rfl dX10_digest_133 ?_
    refine wq_aload_n 0 rfl rfl dX10_digest_134 ?_
    refine wq_iload 3 rfl dX10_digest_135 ?_
    refine wN_V (As := [vI y4]) vm_X10_numberOf lk_X10_254 tT_1 rfl rfl (Nat.le_of_ble_eq_true rfl) (Nat.le_of_ble_eq_true rfl) (d' := d - 1) (by omega) dX10_digest_137 (hv.2 c1) (fun v9 h3 q4 => ?_)
    obtain ⟨z2, rfl, hS5, q4⟩ := q4
    refine wq_st (st' := [vI z2, vL y2]) rfl ?_
    refine wq_i2l dX10_digest_140 ?_
    refine wN_S (As := [vL y2, vL z2]) md_X10_mix ms_X10_mix lk_X10_259 rfl rfl (Nat.le_of_ble_eq_true rfl) (Nat.le_of_ble_eq_true rfl) (d' := d - 1) (by omega) dX10_digest_141 q4 (fun v9 h7 q8 => ?_)
    obtain ⟨z6, rfl, hS9, q8⟩ := q8
    refine wq_st (st' := [vL z6]) rfl ?_
    refine wq_lstore_n (ls' := [(0, vR 1), (1, vR 9), (2, vL z6), (4, vI y4)]) rfl (by decide) rfl dX10_digest_144 ?_
    refine z_nm (y4 + 1) (fun x10 e11 => ?_)
    refine wq_iinc (y := x10) (ls' := [(0, vR 1), (1, vR 9), (2, vL z6), (4, vI x10)]) 3 rfl e11.symm (by rw [e11]; exact q8.1) (by decide) rfl dX10_digest_145 ?_
    refine wq_goto 126 rfl dX10_digest_148 ?_
    exact wq_pick [0, 1, 2, 3] rfl (hI_126 z6 x10 h7 ((q8.2 x10 e11) hS9))
theorem dX10_isWithin_0 : decode cX10_isWithin 0 = .ok (.iload_n 0, 1) := by decide +kernel
theorem dX10_isWithin_1 : decode cX10_isWithin 1 = .ok (.iload_n 1, 1) := by decide +kernel
theorem dX10_isWithin_2 : decode cX10_isWithin 2 = .ok (.if_icmp .lt 12, 3) := by decide +kernel
theorem dX10_isWithin_5 : decode cX10_isWithin 5 = .ok (.iload_n 0, 1) := by decide +kernel
theorem dX10_isWithin_6 : decode cX10_isWithin 6 = .ok (.iload_n 2, 1) := by decide +kernel
theorem dX10_isWithin_7 : decode cX10_isWithin 7 = .ok (.if_icmp .gt 7, 3) := by decide +kernel
theorem dX10_isWithin_10 : decode cX10_isWithin 10 = .ok (.iconst 1, 1) := by decide +kernel
theorem dX10_isWithin_11 : decode cX10_isWithin 11 = .ok (.goto 4, 3) := by decide +kernel
theorem dX10_isWithin_14 : decode cX10_isWithin 14 = .ok (.iconst 0, 1) := by decide +kernel
theorem dX10_isWithin_15 : decode cX10_isWithin 15 = .ok (.ireturn, 1) := by decide +kernel
theorem vc_X10_isWithin_0 {G : zG} {d : Nat} {Q : Option zV → zHp → Prop} (p1 : Int) (p2 : Int) (p3 : Int) (h : zHp) (hS : zSh h) (hd : 0 ≤ d)  
    (hv : ((p1 < p2 → Q (some (vI 0)) h) ∧ (p2 ≤ p1 → ((p3 < p1 → Q (some (vI 0)) h) ∧ (p1 ≤ p3 → Q (some (vI 1)) h))))) : wpN G d M_X10_isWithin 0 [(0, vI p1), (1, vI p2), (2, vI p3)] [] h Q := by
  refine wq_iload_n 0 rfl rfl dX10_isWithin_0 ?_
  refine wq_iload_n 1 rfl rfl dX10_isWithin_1 ?_
  refine wq_icmp_lt 14 rfl dX10_isWithin_2 (fun c1 => ?_) (fun c1 => ?_)
  · refine wq_iconst (z := 0) (zlit rfl) dX10_isWithin_14 ?_
    exact wp_zret (Or.inl rfl) rfl dX10_isWithin_15 (hv.1 c1)
  · refine wq_iload_n 0 rfl rfl dX10_isWithin_5 ?_
    refine wq_iload_n 2 rfl rfl dX10_isWithin_6 ?_
    refine wq_icmp_gt 14 rfl dX10_isWithin_7 (fun c2 => ?_) (fun c2 => ?_)
    · refine wq_iconst (z := 0) (zlit rfl) dX10_isWithin_14 ?_
      exact wp_zret (Or.inl rfl) rfl dX10_isWithin_15 ((hv.2 c1).1 c2)
    · refine wq_iconst (z := 1) (zlit rfl) dX10_isWithin_10 ?_
      refine wq_goto 15 rfl dX10_isWithin_11 ?_
      exact wp_zret (Or.inr rfl) rfl dX10_isWithin_15 ((hv.2 c1).2 c2)
theorem dX10_endChange_0 : decode cX10_endChange 0 = .ok (.iconst 0, 1) := by decide +kernel
theorem dX10_endChange_1 : decode cX10_endChange 1 = .ok (.istore_n 2, 1) := by decide +kernel
theorem dX10_endChange_2 : decode cX10_endChange 2 = .ok (.iload_n 1, 1) := by decide +kernel
theorem dX10_endChange_3 : decode cX10_endChange 3 = .ok (.ifCond .eq 22, 3) := by decide +kernel
theorem dX10_endChange_6 : decode cX10_endChange 6 = .ok (.iload_n 2, 1) := by decide +kernel
theorem dX10_endChange_7 : decode cX10_endChange 7 = .ok (.bipush 8, 2) := by decide +kernel
theorem dX10_endChange_9 : decode cX10_endChange 9 = .ok (.if_icmp .ge 16, 3) := by decide +kernel
theorem dX10_endChange_12 : decode cX10_endChange 12 = .ok (.aload_n 0, 1) := by decide +kernel
theorem dX10_endChange_13 : decode cX10_endChange 13 = .ok (.invokevirtual 269, 3) := by decide +kernel
theorem dX10_endChange_16 : decode cX10_endChange 16 = .ok (.ifCond .eq 9, 3) := by decide +kernel
theorem dX10_endChange_19 : decode cX10_endChange 19 = .ok (.iinc 2 1, 3) := by decide +kernel
theorem dX10_endChange_22 : decode cX10_endChange 22 = .ok (.goto (-20), 3) := by decide +kernel
theorem dX10_endChange_25 : decode cX10_endChange 25 = .ok (.iload_n 2, 1) := by decide +kernel
theorem dX10_endChange_26 : decode cX10_endChange 26 = .ok (.bipush 8, 2) := by decide +kernel
theorem dX10_endChange_28 : decode cX10_endChange 28 = .ok (.if_icmp .ne 14, 3) := by decide +kernel
theorem dX10_endChange_31 : decode cX10_endChange 31 = .ok (.aload_n 0, 1) := by decide +kernel
theorem dX10_endChange_32 : decode cX10_endChange 32 = .ok (.getfield 36, 3) := by decide +kernel
theorem dX10_endChange_35 : decode cX10_endChange 35 = .ok (.invokevirtual 272, 3) := by decide +kernel
theorem dX10_endChange_38 : decode cX10_endChange 38 = .ok (.sipush (-1005), 3) := by decide +kernel
theorem dX10_endChange_41 : decode cX10_endChange 41 = .ok (.ireturn, 1) := by decide +kernel
theorem dX10_endChange_42 : decode cX10_endChange 42 = .ok (.aload_n 0, 1) := by decide +kernel
theorem dX10_endChange_43 : decode cX10_endChange 43 = .ok (.getfield 36, 3) := by decide +kernel
theorem dX10_endChange_46 : decode cX10_endChange 46 = .ok (.invokevirtual 275, 3) := by decide +kernel
theorem dX10_endChange_49 : decode cX10_endChange 49 = .ok (.iload_n 2, 1) := by decide +kernel
theorem dX10_endChange_50 : decode cX10_endChange 50 = .ok (.ireturn, 1) := by decide +kernel
theorem vc_X10_endChange_0 {G : zG} {d : Nat} {Q : Option zV → zHp → Prop} (p1 : Int) (h : zHp) (hS : zSh h) (hd : 7 ≤ d) (I_2 : Int → Int → zHp → Prop) (hI_2 : ∀ (y1 : Int) (y2 : Int) (h' : zHp), I_2 y1 y2 h' → wpN G d M_X10_endChange 2 [(0, vR 1), (1, vI y1), (2, vI y2)] [] h' Q) 
    (hv : (zSh h → I_2 p1 0 h)) : wpN G d M_X10_endChange 0 [(0, vR 1), (1, vI p1)] [] h Q := by
  refine wq_iconst (z := 0) (zlit rfl) dX10_endChange_0 ?_
  refine wq_istore_n (ls' := [(0, vR 1), (1, vI p1), (2, vI 0)]) rfl (by decide) rfl dX10_endChange_1 ?_
  exact wq_pick [0, 1, 2] rfl (hI_2 p1 0 h (hv hS))
theorem vc_X10_endChange_2 {G : zG} {d : Nat} {Q : Option zV → zHp → Prop} (y1 : Int) (y2 : Int) (h : zHp) (hS : zSh h) (hd : 7 ≤ d) (I_2 : Int → Int → zHp → Prop) (hI_2 : ∀ (y1 : Int) (y2 : Int) (h' : zHp), I_2 y1 y2 h' → wpN G d M_X10_endChange 2 [(0, vR 1), (1, vI y1), (2, vI y2)] [] h' Q) 
    (hv : ((y1 = 0 → ((y2 ≠ 8 → (wpN G (d - 1) M_X4_commit 0 (zar 0 [vR 13]) [] h (qV (fun h4 => zSh h4 ∧ Q (some (vI y2)) h4)))) ∧ (y2 = 8 → (wpN G (d - 1) M_X4_takeBack 0 (zar 0 [vR 13]) [] h (qV (fun h8 => zSh h8 ∧ Q (some (vI (-1005))) h8)))))) ∧ (y1 ≠ 0 → ((8 ≤ y2 → ((y2 ≠ 8 → (wpN G (d - 1) M_X4_commit 0 (zar 0 [vR 13]) [] h (qV (fun h14 => zSh h14 ∧ Q (some (vI y2)) h14)))) ∧ (y2 = 8 → (wpN G (d - 1) M_X4_takeBack 0 (zar 0 [vR 13]) [] h (qV (fun h18 => zSh h18 ∧ Q (some (vI (-1005))) h18)))))) ∧ (y2 < 8 → (wpN G (d - 1) M_X10_updateRound 0 (zar 0 [vR 1]) [] h (qI (fun z21 h22 => zSh h22 ∧ ((z21 = 0 → ((y2 ≠ 8 → (wpN G (d - 1) M_X4_commit 0 (zar 0 [vR 13]) [] h22 (qV (fun h28 => zSh h28 ∧ Q (some (vI y2)) h28)))) ∧ (y2 = 8 → (wpN G (d - 1) M_X4_takeBack 0 (zar 0 [vR 13]) [] h22 (qV (fun h32 => zSh h32 ∧ Q (some (vI (-1005))) h32)))))) ∧ (z21 ≠ 0 → ((-2147483648 ≤ y2 + 1 ∧ y2 + 1 ≤ 2147483647) ∧ ∀ x35 : Int, x35 = y2 + 1 → (zSh h22 → I_2 y1 x35 h22)))))))))))) : wpN G d M_X10_endChange 2 [(0, vR 1), (1, vI y1), (2, vI y2)] [] h Q := by
  refine wq_iload_n 1 rfl rfl dX10_endChange_2 ?_
  refine wq_if_eq 25 rfl dX10_endChange_3 (fun c1 => ?_) (fun c1 => ?_)
  · refine wq_iload_n 2 rfl rfl dX10_endChange_25 ?_
    refine wq_bipush (z := 8) (zlit rfl) rfl dX10_endChange_26 ?_
    refine wq_icmp_ne 42 rfl dX10_endChange_28 (fun c2 => ?_) (fun c2 => ?_)
    · refine wq_aload_n 0 rfl rfl dX10_endChange_42 ?_
      refine wq_getR fk_X10_36 tT_1 (fun _ _ _ => rfl) (sh_10_4 hS) (by decide) dX10_endChange_43 ?_
      refine wN_V (As := []) vm_X4_commit lk_X10_275 tT_13 rfl rfl (Nat.le_of_ble_eq_true rfl) (Nat.le_of_ble_eq_true rfl) (d' := d - 1) (by omega) dX10_endChange_46 ((hv.1 c1).1 c2) (fun v9 h4 q5 => ?_)
      obtain ⟨rfl, hS6, q5⟩ := q5
      refine wq_st (st' := []) rfl ?_
      refine wq_iload_n 2 rfl rfl dX10_endChange_49 ?_
      exact wp_iret rfl dX10_endChange_50 q5
    · refine wq_aload_n 0 rfl rfl dX10_endChange_31 ?_
      refine wq_getR fk_X10_36 tT_1 (fun _ _ _ => rfl) (sh_10_4 hS) (by decide) dX10_endChange_32 ?_
      refine wN_V (As := []) vm_X4_takeBack lk_X10_272 tT_13 rfl rfl (Nat.le_of_ble_eq_true rfl) (Nat.le_of_ble_eq_true rfl) (d' := d - 1) (by omega) dX10_endChange_35 ((hv.1 c1).2 c2) (fun v9 h8 q9 => ?_)
      obtain ⟨rfl, hS10, q9⟩ := q9
      refine wq_st (st' := []) rfl ?_
      refine wq_sipush (z := -1005) (zlit rfl) rfl dX10_endChange_38 ?_
      exact wp_iret rfl dX10_endChange_41 q9
  · refine wq_iload_n 2 rfl rfl dX10_endChange_6 ?_
    refine wq_bipush (z := 8) (zlit rfl) rfl dX10_endChange_7 ?_
    refine wq_icmp_ge 25 rfl dX10_endChange_9 (fun c11 => ?_) (fun c11 => ?_)
    · refine wq_iload_n 2 rfl rfl dX10_endChange_25 ?_
      refine wq_bipush (z := 8) (zlit rfl) rfl dX10_endChange_26 ?_
      refine wq_icmp_ne 42 rfl dX10_endChange_28 (fun c12 => ?_) (fun c12 => ?_)
      · refine wq_aload_n 0 rfl rfl dX10_endChange_42 ?_
        refine wq_getR fk_X10_36 tT_1 (fun _ _ _ => rfl) (sh_10_4 hS) (by decide) dX10_endChange_43 ?_
        refine wN_V (As := []) vm_X4_commit lk_X10_275 tT_13 rfl rfl (Nat.le_of_ble_eq_true rfl) (Nat.le_of_ble_eq_true rfl) (d' := d - 1) (by omega) dX10_endChange_46 (((hv.2 c1).1 c11).1 c12) (fun v9 h14 q15 => ?_)
        obtain ⟨rfl, hS16, q15⟩ := q15
        refine wq_st (st' := []) rfl ?_
        refine wq_iload_n 2 rfl rfl dX10_endChange_49 ?_
        exact wp_iret rfl dX10_endChange_50 q15
      · refine wq_aload_n 0 rfl rfl dX10_endChange_31 ?_
        refine wq_getR fk_X10_36 tT_1 (fun _ _ _ => rfl) (sh_10_4 hS) (by decide) dX10_endChange_32 ?_
        refine wN_V (As := []) vm_X4_takeBack lk_X10_272 tT_13 rfl rfl (Nat.le_of_ble_eq_true rfl) (Nat.le_of_ble_eq_true rfl) (d' := d - 1) (by omega) dX10_endChange_35 (((hv.2 c1).1 c11).2 c12) (fun v9 h18 q19 => ?_)
        obtain ⟨rfl, hS20, q19⟩ := q19
        refine wq_st (st' := []) rfl ?_
        refine wq_sipush (z := -1005) (zlit rfl) rfl dX10_endChange_38 ?_
        exact wp_iret rfl dX10_endChange_41 q19
    · refine wq_aload_n 0 rfl rfl dX10_endChange_12 ?_
      refine wN_V (As := []) vm_X10_updateRound lk_X10_269 tT_1 rfl rfl (Nat.le_of_ble_eq_true rfl) (Nat.le_of_ble_eq_true rfl) (d' := d - 1) (by omega) dX10_endChange_13 ((hv.2 c1).2 c11) (fun v9 h22 q23 => ?_)
      obtain ⟨z21, rfl, hS24, q23⟩ := q23
      refine wq_st (st' := [vI z21]) rfl ?_
      refine wq_if_eq 25 rfl dX10_endChange_16 (fun c25 => ?_) (fun c25 => ?_)
      · refine wq_iload_n 2 rfl rfl dX10_endChange_25 ?_
        refine wq_bipush (z := 8) (zlit rfl) rfl dX10_endChange_26 ?_
        refine wq_icmp_ne 42 rfl dX10_endChange_28 (fun c26 => ?_) (fun c26 => ?_)
        · refine wq_aload_n 0 rfl rfl dX10_endChange_42 ?_
          refine wq_getR fk_X10_36 tT_1 (fun _ _ _ => rfl) (sh_10_4 hS24) (by decide) dX10_endChange_43 ?_
          refine wN_V (As := []) vm_X4_commit lk_X10_275 tT_13 rfl rfl (Nat.le_of_ble_eq_true rfl) (Nat.le_of_ble_eq_true rfl) (d' := d - 1) (by omega) dX10_endChange_46 ((q23.1 c25).1 c26) (fun v9 h28 q29 => ?_)
          obtain ⟨rfl, hS30, q29⟩ := q29
          refine wq_st (st' := []) rfl ?_
          refine wq_iload_n 2 rfl rfl dX10_endChange_49 ?_
          exact wp_iret rfl dX10_endChange_50 q29
        · refine wq_aload_n 0 rfl rfl dX10_endChange_31 ?_
          refine wq_getR fk_X10_36 tT_1 (fun _ _ _ => rfl) (sh_10_4 hS24) (by decide) dX10_endChange_32 ?_
          refine wN_V (As := []) vm_X4_takeBack lk_X10_272 tT_13 rfl rfl (Nat.le_of_ble_eq_true rfl) (Nat.le_of_ble_eq_true rfl) (d' := d - 1) (by omega) dX10_endChange_35 ((q23.1 c25).2 c26) (fun v9 h32 q33 => ?_)
          obtain ⟨rfl, hS34, q33⟩ := q33
          refine wq_st (st' := []) rfl ?_
          refine wq_sipush (z := -1005) (zlit rfl) rfl dX10_endChange_38 ?_
          exact wp_iret rfl dX10_endChange_41 q33
      · refine z_nm (y2 + 1) (fun x35 e36 => ?_)
        refine wq_iinc (y := x35) (ls' := [(0, vR 1), (1, vI y1), (2, vI x35)]) 2 rfl e36.symm (by rw [e36]; exact (q23.2 c25).1) (by decide) rfl dX10_endChange_19 ?_
        refine wq_goto 2 rfl dX10_endChange_22 ?_
        exact wq_pick [0, 1, 2] rfl (hI_2 y1 x35 h22 (((q23.2 c25).2 x35 e36) hS24))
theorem dX10_updateRound_0 : decode cX10_updateRound 0 = .ok (.iconst 0, 1) := by decide +kernel
theorem dX10_updateRound_1 : decode cX10_updateRound 1 = .ok (.istore_n 1, 1) := by decide +kernel
theorem dX10_updateRound_2 : decode cX10_updateRound 2 = .ok (.iconst 0, 1) := by decide +kernel
theorem dX10_updateRound_3 : decode cX10_updateRound 3 = .ok (.istore_n 2, 1) := by decide +kernel
theorem dX10_updateRound_4 : decode cX10_updateRound 4 = .ok (.iload_n 2, 1) := by decide +kernel
theorem dX10_updateRound_5 : decode cX10_updateRound 5 = .ok (.iconst 4, 1) := by decide +kernel
theorem dX10_updateRound_6 : decode cX10_updateRound 6 = .ok (.if_icmp .ge 26, 3) := by decide +kernel
theorem dX10_updateRound_9 : decode cX10_updateRound 9 = .ok (.aload_n 0, 1) := by decide +kernel
theorem dX10_updateRound_10 : decode cX10_updateRound 10 = .ok (.iload_n 2, 1) := by decide +kernel
theorem dX10_updateRound_11 : decode cX10_updateRound 11 = .ok (.invokevirtual 169, 3) := by decide +kernel
theorem dX10_updateRound_14 : decode cX10_updateRound 14 = .ok (.ifCond .eq 12, 3) := by decide +kernel
theorem dX10_updateRound_17 : decode cX10_updateRound 17 = .ok (.aload_n 0, 1) := by decide +kernel
theorem dX10_updateRound_18 : decode cX10_updateRound 18 = .ok (.invokevirtual 278, 3) := by decide +kernel
theorem dX10_updateRound_21 : decode cX10_updateRound 21 = .ok (.ifCond .eq 5, 3) := by decide +kernel
theorem dX10_updateRound_24 : decode cX10_updateRound 24 = .ok (.iconst 1, 1) := by decide +kernel
theorem dX10_updateRound_25 : decode cX10_updateRound 25 = .ok (.istore_n 1, 1) := by decide +kernel
theorem dX10_updateRound_26 : decode cX10_updateRound 26 = .ok (.iinc 2 1, 3) := by decide +kernel
theorem dX10_updateRound_29 : decode cX10_updateRound 29 = .ok (.goto (-25), 3) := by decide +kernel
theorem dX10_updateRound_32 : decode cX10_updateRound 32 = .ok (.iload_n 1, 1) := by decide +kernel
theorem dX10_updateRound_33 : decode cX10_updateRound 33 = .ok (.ireturn, 1) := by decide +kernel
theorem vc_X10_updateRound_0 {G : zG} {d : Nat} {Q : Option zV → zHp → Prop}  (h : zHp) (hS : zSh h) (hd : 6 ≤ d) (I_4 : Int → Int → zHp → Prop) (hI_4 : ∀ (y1 : Int) (y2 : Int) (h' : zHp), I_4 y1 y2 h' → wpN G d M_X10_updateRound 4 [(0, vR 1), (1, vI y1), (2, vI y2)] [] h' Q) 
    (hv : (zSh h → I_4 0 0 h)) : wpN G d M_X10_updateRound 0 [(0, vR 1)] [] h Q := by
  refine wq_iconst (z := 0) (zlit rfl) dX10_updateRound_0 ?_
  refine wq_istore_n (ls' := [(0, vR 1), (1, vI 0)]) rfl (by decide) rfl dX10_updateRound_1 ?_
  refine wq_iconst (z := 0) (zlit rfl) dX10_updateRound_2 ?_
  refine wq_istore_n (ls' := [(0, vR 1), (1, vI 0), (2, vI 0)]) rfl (by decide) rfl dX10_updateRound_3 ?_
  exact wq_pick [0, 1, 2] rfl (hI_4 0 0 h (hv hS))
theorem vc_X10_updateRound_4 {G : zG} {d : Nat} {Q : Option zV → zHp → Prop} (y1 : Int) (y2 : Int) (h : zHp) (hS : zSh h) (hd : 6 ≤ d) (I_4 : Int → Int → zHp → Prop) (hI_4 : ∀ (y1 : Int) (y2 : Int) (h' : zHp), I_4 y1 y2 h' → wpN G d M_X10_updateRound 4 [(0, vR 1), (1, vI y1), (2, vI y2)] [] h' Q) 
    (hv : ((4 ≤ y2 → ((y1 = 0 ∨ y1 = 1) ∧ Q (some (vI y1)) h)) ∧ (y2 < 4 → (wpN G (d - 1) M_X10_layOut 0 (zar 0 [vR 1, vI y2]) [] h (qI (fun z2 h3 => zSh h3 ∧ ((z2 = 0 → ((-2147483648 ≤ y2 + 1 ∧ y2 + 1 ≤ 2147483647) ∧ ∀ x7 : Int, x7 = y2 + 1 → (zSh h3 → I_4 y1 x7 h3))) ∧ (z2 ≠ 0 → (wpN G (d - 1) M_X10_updateWrongFields 0 (zar 0 [vR 1]) [] h3 (qI (fun z9 h10 => zSh h10 ∧ ((z9 = 0 → ((-2147483648 ≤ y2 + 1 ∧ y2 + 1 ≤ 2147483647) ∧ ∀ x14 : Int, x14 = y2 + 1 → (zSh h10 → I_4 y1 x14 h10))) ∧ (z9 ≠ 0 → ((-2147483648 ≤ y2 + 1 ∧ y2 + 1 ≤ 2147483647) ∧ ∀ x16 : Int, x16 = y2 + 1 → (zSh h10 → I_4 1 x16 h10))))))))))))))) : wpN G d M_X10_updateRound 4 [(0, vR 1), (1, vI y1), (2, vI y2)] [] h Q := by
  refine wq_iload_n 2 rfl rfl dX10_updateRound_4 ?_
  refine wq_iconst (z := 4) (zlit rfl) dX10_updateRound_5 ?_
  refine wq_icmp_ge 32 rfl dX10_updateRound_6 (fun c1 => ?_) (fun c1 => ?_)
  · refine wq_iload_n 1 rfl rfl dX10_updateRound_32 ?_
    exact wp_zret (hv.1 c1).1 rfl dX10_updateRound_33 (hv.1 c1).2
  · refine wq_aload_n 0 rfl rfl dX10_updateRound_9 ?_
    refine wq_iload_n 2 rfl rfl dX10_updateRound_10 ?_
    refine wN_V (As := [vI y2]) vm_X10_layOut lk_X10_169 tT_1 rfl rfl (Nat.le_of_ble_eq_true rfl) (Nat.le_of_ble_eq_true rfl) (d' := d - 1) (by omega) dX10_updateRound_11 (hv.2 c1) (fun v9 h3 q4 => ?_)
    obtain ⟨z2, rfl, hS5, q4⟩ := q4
    refine wq_st (st' := [vI z2]) rfl ?_
    refine wq_if_eq 26 rfl dX10_updateRound_14 (fun c6 => ?_) (fun c6 => ?_)
    · refine z_nm (y2 + 1) (fun x7 e8 => ?_)
      refine wq_iinc (y := x7) (ls' := [(0, vR 1), (1, vI y1), (2, vI x7)]) 2 rfl e8.symm (by rw [e8]; exact (q4.1 c6).1) (by decide) rfl dX10_updateRound_26 ?_
      refine wq_goto 4 rfl dX10_updateRound_29 ?_
      exact wq_pick [0, 1, 2] rfl (hI_4 y1 x7 h3 (((q4.1 c6).2 x7 e8) hS5))
    · refine wq_aload_n 0 rfl rfl dX10_updateRound_17 ?_
      refine wN_V (As := []) vm_X10_updateWrongFields lk_X10_278 tT_1 rfl rfl (Nat.le_of_ble_eq_true rfl) (Nat.le_of_ble_eq_true rfl) (d' := d - 1) (by omega) dX10_updateRound_18 (q4.2 c6) (fun v9 h10 q11 => ?_)
      obtain ⟨z9, rfl, hS12, q11⟩ := q11
      refine wq_st (st' := [vI z9]) rfl ?_
      refine wq_if_eq 26 rfl dX10_updateRound_21 (fun c13 => ?_) (fun c13 => ?_)
      · refine z_nm (y2 + 1) (fun x14 e15 => ?_)
        refine wq_iinc (y := x14) (ls' := [(0, vR 1), (1, vI y1), (2, vI x14)]) 2 rfl e15.symm (by rw [e15]; exact (q11.1 c13).1) (by decide) rfl dX10_updateRound_26 ?_
        refine wq_goto 4 rfl dX10_updateRound_29 ?_
        exact wq_pick [0, 1, 2] rfl (hI_4 y1 x14 h10 (((q11.1 c13).2 x14 e15) hS12))
      · refine wq_iconst (z := 1) (zlit rfl) dX10_updateRound_24 ?_
        refine wq_istore_n (ls' := [(0, vR 1), (1, vI 1), (2, vI y2)]) rfl (by decide) rfl dX10_updateRound_25 ?_
        refine z_nm (y2 + 1) (fun x16 e17 => ?_)
        refine wq_iinc (y := x16) (ls' := [(0, vR 1), (1, vI 1), (2, vI x16)]) 2 rfl e17.symm (by rw [e17]; exact (q11.2 c13).1) (by decide) rfl dX10_updateRound_26 ?_
        refine wq_goto 4 rfl dX10_updateRound_29 ?_
        exact wq_pick [0, 1, 2] rfl (hI_4 1 x16 h10 (((q11.2 c13).2 x16 e17) hS12))
theorem dX10_updateWrongFields_0 : decode cX10_updateWrongFields 0 = .ok (.iconst 0, 1) := by decide +kernel
theorem dX10_updateWrongFields_1 : decode cX10_updateWrongFields 1 = .ok (.istore_n 1, 1) := by decide +kernel
theorem dX10_updateWrongFields_2 : decode cX10_updateWrongFields 2 = .ok (.iconst 0, 1) := by decide +kernel
theorem dX10_updateWrongFields_3 : decode cX10_updateWrongFields 3 = .ok (.istore_n 2, 1) := by decide +kernel
theorem dX10_updateWrongFields_4 : decode cX10_updateWrongFields 4 = .ok (.iload_n 2, 1) := by decide +kernel
theorem dX10_updateWrongFields_5 : decode cX10_updateWrongFields 5 = .ok (.aload_n 0, 1) := by decide +kernel
theorem dX10_updateWrongFields_6 : decode cX10_updateWrongFields 6 = .ok (.getfield 75, 3) := by decide +kernel
theorem dX10_updateWrongFields_9 : decode cX10_updateWrongFields 9 = .ok (.getfield 199, 3) := by decide +kernel
theorem dX10_updateWrongFields_12 : decode cX10_updateWrongFields 12 = .ok (.if_icmp .ge 58, 3) := by decide +kernel
theorem dX10_updateWrongFields_15 : decode cX10_updateWrongFields 15 = .ok (.aload_n 0, 1) := by decide +kernel
theorem dX10_updateWrongFields_16 : decode cX10_updateWrongFields 16 = .ok (.getfield 75, 3) := by decide +kernel
theorem dX10_updateWrongFields_19 : decode cX10_updateWrongFields 19 = .ok (.getfield 179, 3) := by decide +kernel
theorem dX10_updateWrongFields_22 : decode cX10_updateWrongFields 22 = .ok (.iload_n 2, 1) := by decide +kernel
theorem dX10_updateWrongFields_23 : decode cX10_updateWrongFields 23 = .ok (.aaload, 1) := by decide +kernel
theorem dX10_updateWrongFields_24 : decode cX10_updateWrongFields 24 = .ok (.astore_n 3, 1) := by decide +kernel
theorem dX10_updateWrongFields_25 : decode cX10_updateWrongFields 25 = .ok (.aload_n 3, 1) := by decide +kernel
theorem dX10_updateWrongFields_26 : decode cX10_updateWrongFields 26 = .ok (.aload_n 0, 1) := by decide +kernel
theorem dX10_updateWrongFields_27 : decode cX10_updateWrongFields 27 = .ok (.getfield 27, 3) := by decide +kernel
theorem dX10_updateWrongFields_30 : decode cX10_updateWrongFields 30 = .ok (.getfield 69, 3) := by decide +kernel
theorem dX10_updateWrongFields_33 : decode cX10_updateWrongFields 33 = .ok (.invokestatic 228, 3) := by decide +kernel
theorem dX10_updateWrongFields_36 : decode cX10_updateWrongFields 36 = .ok (.ifCond .eq 28, 3) := by decide +kernel
theorem dX10_updateWrongFields_39 : decode cX10_updateWrongFields 39 = .ok (.aload_n 0, 1) := by decide +kernel
theorem dX10_updateWrongFields_40 : decode cX10_updateWrongFields 40 = .ok (.getfield 27, 3) := by decide +kernel
theorem dX10_updateWrongFields_43 : decode cX10_updateWrongFields 43 = .ok (.getfield 69, 3) := by decide +kernel
theorem dX10_updateWrongFields_46 : decode cX10_updateWrongFields 46 = .ok (.aload_n 3, 1) := by decide +kernel
theorem dX10_updateWrongFields_47 : decode cX10_updateWrongFields 47 = .ok (.aload_n 3, 1) := by decide +kernel
theorem dX10_updateWrongFields_48 : decode cX10_updateWrongFields 48 = .ok (.aload_n 0, 1) := by decide +kernel
theorem dX10_updateWrongFields_49 : decode cX10_updateWrongFields 49 = .ok (.getfield 27, 3) := by decide +kernel
theorem dX10_updateWrongFields_52 : decode cX10_updateWrongFields 52 = .ok (.getfield 69, 3) := by decide +kernel
theorem dX10_updateWrongFields_55 : decode cX10_updateWrongFields 55 = .ok (.invokestatic 222, 3) := by decide +kernel
theorem dX10_updateWrongFields_58 : decode cX10_updateWrongFields 58 = .ok (.i2l, 1) := by decide +kernel
theorem dX10_updateWrongFields_59 : decode cX10_updateWrongFields 59 = .ok (.invokevirtual 214, 3) := by decide +kernel
theorem dX10_updateWrongFields_62 : decode cX10_updateWrongFields 62 = .ok (.iconst 1, 1) := by decide +kernel
theorem dX10_updateWrongFields_63 : decode cX10_updateWrongFields 63 = .ok (.istore_n 1, 1) := by decide +kernel
theorem dX10_updateWrongFields_64 : decode cX10_updateWrongFields 64 = .ok (.iinc 2 1, 3) := by decide +kernel
theorem dX10_updateWrongFields_67 : decode cX10_updateWrongFields 67 = .ok (.goto (-63), 3) := by decide +kernel
theorem dX10_updateWrongFields_70 : decode cX10_updateWrongFields 70 = .ok (.iload_n 1, 1) := by decide +kernel
theorem dX10_updateWrongFields_71 : decode cX10_updateWrongFields 71 = .ok (.ireturn, 1) := by decide +kernel
theorem vc_X10_updateWrongFields_0 {G : zG} {d : Nat} {Q : Option zV → zHp → Prop}  (h : zHp) (hS : zSh h) (hd : 3 ≤ d) (I_4 : Int → Int → zHp → Prop) (hI_4 : ∀ (y1 : Int) (y2 : Int) (h' : zHp), I_4 y1 y2 h' → wpN G d M_X10_updateWrongFields 4 [(0, vR 1), (1, vI y1), (2, vI y2)] [] h' Q) 
    (hv : (zSh h → I_4 0 0 h)) : wpN G d M_X10_updateWrongFields 0 [(0, vR 1)] [] h Q := by
  refine wq_iconst (z := 0) (zlit rfl) dX10_updateWrongFields_0 ?_
  refine wq_istore_n (ls' := [(0, vR 1), (1, vI 0)]) rfl (by decide) rfl dX10_updateWrongFields_1 ?_
  refine wq_iconst (z := 0) (zlit rfl) dX10_updateWrongFields_2 ?_
  refine wq_istore_n (ls' := [(0, vR 1), (1, vI 0), (2, vI 0)]) rfl (by decide) rfl dX10_updateWrongFields_3 ?_
  exact wq_pick [0, 1, 2] rfl (hI_4 0 0 h (hv hS))
theorem vc_X10_updateWrongFields_4 {G : zG} {d : Nat} {Q : Option zV → zHp → Prop} (y1 : Int) (y2 : Int) (h : zHp) (hS : zSh h) (hd : 3 ≤ d) (I_4 : Int → Int → zHp → Prop) (hI_4 : ∀ (y1 : Int) (y2 : Int) (h' : zHp), I_4 y1 y2 h' → wpN G d M_X10_updateWrongFields 4 [(0, vR 1), (1, vI y1), (2, vI y2)] [] h' Q) 
    (hv : (((gI h 215 1) ≤ y2 → ((y1 = 0 ∨ y1 = 1) ∧ Q (some (vI y1)) h)) ∧ (y2 < (gI h 215 1) → (((0 : Int) ≤ y2 ∧ y2 < ((60 : Nat) : Int)) ∧ (wpN G (d - 1) M_X1_isWrong 0 (zar 0 [vR (217 + 2 * y2.toNat), vR 9]) [] h (qI (fun z2 h3 => zSh h3 ∧ ((z2 = 0 → ((-2147483648 ≤ y2 + 1 ∧ y2 + 1 ≤ 2147483647) ∧ ∀ x7 : Int, x7 = y2 + 1 → (zSh h3 → I_4 y1 x7 h3))) ∧ (z2 ≠ 0 → (wpN G (d - 1) M_X1_expectedOf 0 (zar 0 [vR (217 + 2 * y2.toNat), vR 9]) [] h3 (qI (fun z9 h10 => zSh h10 ∧ (wpN G (d - 1) M_X0_write 0 (zar 0 [vR 9, vR (217 + 2 * y2.toNat), vL z9]) [] h10 (qV (fun h14 => zSh h14 ∧ ((-2147483648 ≤ y2 + 1 ∧ y2 + 1 ≤ 2147483647) ∧ ∀ x17 : Int, x17 = y2 + 1 → (zSh h14 → I_4 1 x17 h14))))))))))))))))) : wpN G d M_X10_updateWrongFields 4 [(0, vR 1), (1, vI y1), (2, vI y2)] [] h Q := by
  refine wq_iload_n 2 rfl rfl dX10_updateWrongFields_4 ?_
  refine wq_aload_n 0 rfl rfl dX10_updateWrongFields_5 ?_
  refine wq_getR fk_X10_75 tT_1 (fun _ _ _ => rfl) (sh_10_8 hS) (by decide) dX10_updateWrongFields_6 ?_
  refine wq_getI fk_X10_199 tT_215 (fun _ _ _ => rfl) dX10_updateWrongFields_9 ?_
  refine wq_icmp_ge 70 rfl dX10_updateWrongFields_12 (fun c1 => ?_) (fun c1 => ?_)
  · refine wq_iload_n 1 rfl rfl dX10_updateWrongFields_70 ?_
    exact wp_zret (hv.1 c1).1 rfl dX10_updateWrongFields_71 (hv.1 c1).2
  · refine wq_aload_n 0 rfl rfl dX10_updateWrongFields_15 ?_
    refine wq_getR fk_X10_75 tT_1 (fun _ _ _ => rfl) (sh_10_8 hS) (by decide) dX10_updateWrongFields_16 ?_
    refine wq_getR fk_X10_179 tT_215 (fun _ _ _ => rfl) (sh_6_0 hS) (by decide) dX10_updateWrongFields_19 ?_
    refine wq_iload_n 2 rfl rfl dX10_updateWrongFields_22 ?_
    refine wq_aald (r := (217 + 2 * y2.toNat)) tT_216 (by decide) (by decide) rfl (hv.2 c1).1.1 (hv.2 c1).1.2 (sh_fds hS (zlt_n (hv.2 c1).1.1 (hv.2 c1).1.2)) (by omega) dX10_updateWrongFields_23 ?_
    refine wq_astore_n (ls' := [(0, vR 1), (1, vI y1), (2, vI y2), (3, vR (217 + 2 * y2.toNat))]) rfl (by decide) rfl dX10_updateWrongFields_24 ?_
    refine wq_aload_n 3 rfl rfl dX10_updateWrongFields_25 ?_
    refine wq_aload_n 0 rfl rfl dX10_updateWrongFields_26 ?_
    refine wq_getR fk_X10_27 tT_1 (fun _ _ _ => rfl) (sh_10_3 hS) (by decide) dX10_updateWrongFields_27 ?_
    refine wq_getR (r := 9) fk_X10_69 tT_8 (fun _ _ _ => rfl) (sh_2_0 hS tT_8) (by decide) dX10_updateWrongFields_30 ?_
    refine wN_S (As := [vR (217 + 2 * y2.toNat), vR 9]) md_X1_isWrong ms_X1_isWrong lk_X10_228 rfl rfl (Nat.le_of_ble_eq_true rfl) (Nat.le_of_ble_eq_true rfl) (d' := d - 1) (by omega) dX10_updateWrongFields_33 (hv.2 c1).2 (fun v9 h3 q4 => ?_)
    obtain ⟨z2, rfl, hS5, q4⟩ := q4
    refine wq_st (st' := [vI z2]) rfl ?_
    refine wq_if_eq 64 rfl dX10_updateWrongFields_36 (fun c6 => ?_) (fun c6 => ?_)
    · refine z_nm (y2 + 1) (fun x7 e8 => ?_)
      refine wq_iinc (y := x7) (ls' := [(0, vR 1), (1, vI y1), (2, vI x7), (3, vR (217 + 2 * y2.toNat))]) 2 rfl e8.symm (by rw [e8]; exact (q4.1 c6).1) (by decide) rfl dX10_updateWrongFields_64 ?_
      refine wq_goto 4 rfl dX10_updateWrongFields_67 ?_
      exact wq_pick [0, 1, 2] rfl (hI_4 y1 x7 h3 (((q4.1 c6).2 x7 e8) hS5))
    · refine wq_aload_n 0 rfl rfl dX10_updateWrongFields_39 ?_
      refine wq_getR fk_X10_27 tT_1 (fun _ _ _ => rfl) (sh_10_3 hS5) (by decide) dX10_updateWrongFields_40 ?_
      refine wq_getR (r := 9) fk_X10_69 tT_8 (fun _ _ _ => rfl) (sh_2_0 hS5 tT_8) (by decide) dX10_updateWrongFields_43 ?_
      refine wq_aload_n 3 rfl rfl dX10_updateWrongFields_46 ?_
      refine wq_aload_n 3 rfl rfl dX10_updateWrongFields_47 ?_
      refine wq_aload_n 0 rfl rfl dX10_updateWrongFields_48 ?_
      refine wq_getR fk_X10_27 tT_1 (fun _ _ _ => rfl) (sh_10_3 hS5) (by decide) dX10_updateWrongFields_49 ?_
      refine wq_getR (r := 9) fk_X10_69 tT_8 (fun _ _ _ => rfl) (sh_2_0 hS5 tT_8) (by decide) dX10_updateWrongFields_52 ?_
      refine wN_S (As := [vR (217 + 2 * y2.toNat), vR 9]) md_X1_expectedOf ms_X1_expectedOf lk_X10_222 rfl rfl (Nat.le_of_ble_eq_true rfl) (Nat.le_of_ble_eq_true rfl) (d' := d - 1) (by omega) dX10_updateWrongFields_55 (q4.2 c6) (fun v9 h10 q11 => ?_)
      obtain ⟨z9, rfl, hS12, q11⟩ := q11
      refine wq_st (st' := [vI z9, vR (217 + 2 * y2.toNat), vR 9]) rfl ?_
      refine wq_i2l dX10_updateWrongFields_58 ?_
      refine wN_V (As := [vR (217 + 2 * y2.toNat), vL z9]) vm_X0_write lk_X10_214 tT_9 rfl rfl (Nat.le_of_ble_eq_true rfl) (Nat.le_of_ble_eq_true rfl) (d' := d - 1) (by omega) dX10_updateWrongFields_59 q11 (fun v9 h14 q15 => ?_)
      obtain ⟨rfl, hS16, q15⟩ := q15
      refine wq_st (st' := []) rfl ?_
      refine wq_iconst (z := 1) (zlit rfl) dX10_updateWrongFields_62 ?_
      refine wq_istore_n (ls' := [(0, vR 1), (1, vI 1), (2, vI y2), (3, vR (217 + 2 * y2.toNat))]) rfl (by decide) rfl dX10_updateWrongFields_63 ?_
      refine z_nm (y2 + 1) (fun x17 e18 => ?_)
      refine wq_iinc (y := x17) (ls' := [(0, vR 1), (1, vI 1), (2, vI x17), (3, vR (217 + 2 * y2.toNat))]) 2 rfl e18.symm (by rw [e18]; exact q15.1) (by decide) rfl dX10_updateWrongFields_64 ?_
      refine wq_goto 4 rfl dX10_updateWrongFields_67 ?_
      exact wq_pick [0, 1, 2] rfl (hI_4 1 x17 h14 ((q15.2 x17 e18) hS16))
theorem dX10_layOut_0 : decode cX10_layOut 0 = .ok (.aload_n 0, 1) := by decide +kernel
theorem dX10_layOut_1 : decode cX10_layOut 1 = .ok (.getfield 27, 3) := by decide +kernel
theorem dX10_layOut_4 : decode cX10_layOut 4 = .ok (.iload_n 1, 1) := by decide +kernel
theorem dX10_layOut_5 : decode cX10_layOut 5 = .ok (.invokevirtual 163, 3) := by decide +kernel
theorem dX10_layOut_8 : decode cX10_layOut 8 = .ok (.ifCond .ne 5, 3) := by decide +kernel
theorem dX10_layOut_11 : decode cX10_layOut 11 = .ok (.iconst 0, 1) := by decide +kernel
theorem dX10_layOut_12 : decode cX10_layOut 12 = .ok (.ireturn, 1) := by decide +kernel
theorem dX10_layOut_13 : decode cX10_layOut 13 = .ok (.aload_n 0, 1) := by decide +kernel
theorem dX10_layOut_14 : decode cX10_layOut 14 = .ok (.getfield 27, 3) := by decide +kernel
theorem dX10_layOut_17 : decode cX10_layOut 17 = .ok (.getfield 154, 3) := by decide +kernel
theorem dX10_layOut_20 : decode cX10_layOut 20 = .ok (.iload_n 1, 1) := by decide +kernel
theorem dX10_layOut_21 : decode cX10_layOut 21 = .ok (.iaload, 1) := by decide +kernel
theorem dX10_layOut_22 : decode cX10_layOut 22 = .ok (.istore_n 2, 1) := by decide +kernel
theorem dX10_layOut_23 : decode cX10_layOut 23 = .ok (.iload_n 2, 1) := by decide +kernel
theorem dX10_layOut_24 : decode cX10_layOut 24 = .ok (.iconst 0, 1) := by decide +kernel
theorem dX10_layOut_25 : decode cX10_layOut 25 = .ok (.iconst 3, 1) := by decide +kernel
theorem dX10_layOut_26 : decode cX10_layOut 26 = .ok (.invokestatic 87, 3) := by decide +kernel
theorem dX10_layOut_29 : decode cX10_layOut 29 = .ok (.ifCond .ne 5, 3) := by decide +kernel
theorem dX10_layOut_32 : decode cX10_layOut 32 = .ok (.iconst 0, 1) := by decide +kernel
theorem dX10_layOut_33 : decode cX10_layOut 33 = .ok (.ireturn, 1) := by decide +kernel
theorem dX10_layOut_34 : decode cX10_layOut 34 = .ok (.aload_n 0, 1) := by decide +kernel
theorem dX10_layOut_35 : decode cX10_layOut 35 = .ok (.getfield 75, 3) := by decide +kernel
theorem dX10_layOut_38 : decode cX10_layOut 38 = .ok (.aload_n 0, 1) := by decide +kernel
theorem dX10_layOut_39 : decode cX10_layOut 39 = .ok (.getfield 42, 3) := by decide +kernel
theorem dX10_layOut_42 : decode cX10_layOut 42 = .ok (.iload_n 2, 1) := by decide +kernel
theorem dX10_layOut_43 : decode cX10_layOut 43 = .ok (.aaload, 1) := by decide +kernel
theorem dX10_layOut_44 : decode cX10_layOut 44 = .ok (.aload_n 0, 1) := by decide +kernel
theorem dX10_layOut_45 : decode cX10_layOut 45 = .ok (.getfield 27, 3) := by decide +kernel
theorem dX10_layOut_48 : decode cX10_layOut 48 = .ok (.getfield 157, 3) := by decide +kernel
theorem dX10_layOut_51 : decode cX10_layOut 51 = .ok (.iload_n 1, 1) := by decide +kernel
theorem dX10_layOut_52 : decode cX10_layOut 52 = .ok (.iaload, 1) := by decide +kernel
theorem dX10_layOut_53 : decode cX10_layOut 53 = .ok (.invokevirtual 281, 3) := by decide +kernel
theorem dX10_layOut_56 : decode cX10_layOut 56 = .ok (.iconst 1, 1) := by decide +kernel
theorem dX10_layOut_57 : decode cX10_layOut 57 = .ok (.ireturn, 1) := by decide +kernel
theorem vc_X10_layOut_0 {G : zG} {d : Nat} {Q : Option zV → zHp → Prop} (p1 : Int) (h : zHp) (hS : zSh h) (hd : 5 ≤ d)  
    (hv : (wpN G (d - 1) M_X2_isPresent 0 (zar 0 [vR 8, vI p1]) [] h (qI (fun z1 h2 => zSh h2 ∧ ((z1 ≠ 0 → (((0 : Int) ≤ p1 ∧ p1 < ((4 : Nat) : Int)) ∧ (∀ x6 : Int, x6 = (gI h2 11 p1.toNat) → (wpN G (d - 1) M_X10_isWithin 0 (zar 0 [vI x6, vI 0, vI 3]) [] h2 (qI (fun z8 h9 => zSh h9 ∧ ((z8 ≠ 0 → (((0 : Int) ≤ x6 ∧ x6 < ((4 : Nat) : Int)) ∧ (zT 369 (gR h9 80 x6.toNat) = (108, 2) ∧ (((0 : Int) ≤ p1 ∧ p1 < ((4 : Nat) : Int)) ∧ (wpN G (d - 1) M_X6_compute 0 (zar 0 [vR 215, vR (gR h9 80 x6.toNat), vI (gI h9 12 p1.toNat)]) [] h9 (qV (fun h14 => zSh h14 ∧ Q (some (vI 1)) h14))))))) ∧ (z8 = 0 → Q (some (vI 0)) h9)))))))) ∧ (z1 = 0 → Q (some (vI 0)) h2)))))) : wpN G d M_X10_layOut 0 [(0, vR 1), (1, vI p1)] [] h Q := by
  refine wq_aload_n 0 rfl rfl dX10_layOut_0 ?_
  refine wq_getR fk_X10_27 tT_1 (fun _ _ _ => rfl) (sh_10_3 hS) (by decide) dX10_layOut_1 ?_
  refine wq_iload_n 1 rfl rfl dX10_layOut_4 ?_
  refine wN_V (As := [vI p1]) vm_X2_isPresent lk_X10_163 tT_8 rfl rfl (Nat.le_of_ble_eq_true rfl) (Nat.le_of_ble_eq_true rfl) (d' := d - 1) (by omega) dX10_layOut_5 hv (fun v9 h2 q3 => ?_)
  obtain ⟨z1, rfl, hS4, q3⟩ := q3
  refine wq_st (st' := [vI z1]) rfl ?_
  refine wq_if_ne 13 rfl dX10_layOut_8 (fun c5 => ?_) (fun c5 => ?_)
  · refine wq_aload_n 0 rfl rfl dX10_layOut_13 ?_
    refine wq_getR fk_X10_27 tT_1 (fun _ _ _ => rfl) (sh_10_3 hS4) (by decide) dX10_layOut_14 ?_
    refine wq_getR (r := 11) fk_X10_154 tT_8 (fun _ _ _ => rfl) (sh_2_1 hS4 tT_8) (by decide) dX10_layOut_17 ?_
    refine wq_iload_n 1 rfl rfl dX10_layOut_20 ?_
    refine wq_iald tT_11 (q3.1 c5).1.1 (q3.1 c5).1.2 dX10_layOut_21 ?_
    refine wq_topI (fun x6 e7 => ?_)
    refine wq_istore_n (ls' := [(0, vR 1), (1, vI p1), (2, vI x6)]) rfl (by decide) rfl dX10_layOut_22 ?_
    refine wq_iload_n 2 rfl rfl dX10_layOut_23 ?_
    refine wq_iconst (z := 0) (zlit rfl) dX10_layOut_24 ?_
    refine wq_iconst (z := 3) (zlit rfl) dX10_layOut_25 ?_
    refine wN_S (As := [vI x6, vI 0, vI 3]) md_X10_isWithin ms_X10_isWithin lk_X10_87 rfl rfl (Nat.le_of_ble_eq_true rfl) (Nat.le_of_ble_eq_true rfl) (d' := d - 1) (by omega) dX10_layOut_26 ((q3.1 c5).2 x6 e7) (fun v9 h9 q10 => ?_)
    obtain ⟨z8, rfl, hS11, q10⟩ := q10
    refine wq_st (st' := [vI z8]) rfl ?_
    refine wq_if_ne 34 rfl dX10_layOut_29 (fun c12 => ?_) (fun c12 => ?_)
    · refine wq_aload_n 0 rfl rfl dX10_layOut_34 ?_
      refine wq_getR fk_X10_75 tT_1 (fun _ _ _ => rfl) (sh_10_8 hS11) (by decide) dX10_layOut_35 ?_
      refine wq_aload_n 0 rfl rfl dX10_layOut_38 ?_
      refine wq_getR fk_X10_42 tT_1 (fun _ _ _ => rfl) (sh_10_5 hS11) (by decide) dX10_layOut_39 ?_
      refine wq_iload_n 2 rfl rfl dX10_layOut_42 ?_
      refine wq_aald tT_80 (by decide) (by decide) rfl (q10.1 c12).1.1 (q10.1 c12).1.2 rfl (zT_nz (q10.1 c12).2.1 (by decide)) dX10_layOut_43 ?_
      refine wq_aload_n 0 rfl rfl dX10_layOut_44 ?_
      refine wq_getR fk_X10_27 tT_1 (fun _ _ _ => rfl) (sh_10_3 hS11) (by decide) dX10_layOut_45 ?_
      refine wq_getR (r := 12) fk_X10_157 tT_8 (fun _ _ _ => rfl) (sh_2_2 hS11 tT_8) (by decide) dX10_layOut_48 ?_
      refine wq_iload_n 1 rfl rfl dX10_layOut_51 ?_
      refine wq_iald tT_12 (q10.1 c12).2.2.1.1 (q10.1 c12).2.2.1.2 dX10_layOut_52 ?_
      refine wN_V (As := [vR (gR h9 80 x6.toNat), vI (gI h9 12 p1.toNat)]) vm_X6_compute lk_X10_281 tT_215 rfl rfl (Nat.le_of_ble_eq_true rfl) (Nat.le_of_ble_eq_true rfl) (d' := d - 1) (by omega) dX10_layOut_53 (q10.1 c12).2.2.2 (fun v9 h14 q15 => ?_)
      obtain ⟨rfl, hS16, q15⟩ := q15
      refine wq_st (st' := []) rfl ?_
      refine wq_iconst (z := 1) (zlit rfl) dX10_layOut_56 ?_
      exact wp_zret (Or.inr rfl) rfl dX10_layOut_57 q15
    · refine wq_iconst (z := 0) (zlit rfl) dX10_layOut_32 ?_
      exact wp_zret (Or.inl rfl) rfl dX10_layOut_33 (q10.2 c12)
  · refine wq_iconst (z := 0) (zlit rfl) dX10_layOut_11 ?_
    exact wp_zret (Or.inl rfl) rfl dX10_layOut_12 (q3.2 c5)
theorem dX10_layOutField_0 : decode cX10_layOutField 0 = .ok (.aload_n 0, 1) := by decide +kernel
theorem dX10_layOutField_1 : decode cX10_layOutField 1 = .ok (.iload_n 1, 1) := by decide +kernel
theorem dX10_layOutField_2 : decode cX10_layOutField 2 = .ok (.invokevirtual 169, 3) := by decide +kernel
theorem dX10_layOutField_5 : decode cX10_layOutField 5 = .ok (.ifCond .eq 22, 3) := by decide +kernel
theorem dX10_layOutField_8 : decode cX10_layOutField 8 = .ok (.iload_n 2, 1) := by decide +kernel
theorem dX10_layOutField_9 : decode cX10_layOutField 9 = .ok (.ifCond .lt 18, 3) := by decide +kernel
theorem dX10_layOutField_12 : decode cX10_layOutField 12 = .ok (.iload_n 2, 1) := by decide +kernel
theorem dX10_layOutField_13 : decode cX10_layOutField 13 = .ok (.aload_n 0, 1) := by decide +kernel
theorem dX10_layOutField_14 : decode cX10_layOutField 14 = .ok (.getfield 75, 3) := by decide +kernel
theorem dX10_layOutField_17 : decode cX10_layOutField 17 = .ok (.getfield 199, 3) := by decide +kernel
theorem dX10_layOutField_20 : decode cX10_layOutField 20 = .ok (.if_icmp .ge 7, 3) := by decide +kernel
theorem dX10_layOutField_23 : decode cX10_layOutField 23 = .ok (.iconst 1, 1) := by decide +kernel
theorem dX10_layOutField_24 : decode cX10_layOutField 24 = .ok (.goto 4, 3) := by decide +kernel
theorem dX10_layOutField_27 : decode cX10_layOutField 27 = .ok (.iconst 0, 1) := by decide +kernel
theorem dX10_layOutField_28 : decode cX10_layOutField 28 = .ok (.ireturn, 1) := by decide +kernel
theorem vc_X10_layOutField_0 {G : zG} {d : Nat} {Q : Option zV → zHp → Prop} (p1 : Int) (p2 : Int) (h : zHp) (hS : zSh h) (hd : 6 ≤ d)  
    (hv : (wpN G (d - 1) M_X10_layOut 0 (zar 0 [vR 1, vI p1]) [] h (qI (fun z1 h2 => zSh h2 ∧ ((z1 = 0 → Q (some (vI 0)) h2) ∧ (z1 ≠ 0 → ((p2 < 0 → Q (some (vI 0)) h2) ∧ (0 ≤ p2 → (((gI h2 215 1) ≤ p2 → Q (some (vI 0)) h2) ∧ (p2 < (gI h2 215 1) → Q (some (vI 1)) h2)))))))))) : wpN G d M_X10_layOutField 0 [(0, vR 1), (1, vI p1), (2, vI p2)] [] h Q := by
  refine wq_aload_n 0 rfl rfl dX10_layOutField_0 ?_
  refine wq_iload_n 1 rfl rfl dX10_layOutField_1 ?_
  refine wN_V (As := [vI p1]) vm_X10_layOut lk_X10_169 tT_1 rfl rfl (Nat.le_of_ble_eq_true rfl) (Nat.le_of_ble_eq_true rfl) (d' := d - 1) (by omega) dX10_layOutField_2 hv (fun v9 h2 q3 => ?_)
  obtain ⟨z1, rfl, hS4, q3⟩ := q3
  refine wq_st (st' := [vI z1]) rfl ?_
  refine wq_if_eq 27 rfl dX10_layOutField_5 (fun c5 => ?_) (fun c5 => ?_)
  · refine wq_iconst (z := 0) (zlit rfl) dX10_layOutField_27 ?_
    exact wp_zret (Or.inl rfl) rfl dX10_layOutField_28 (q3.1 c5)
  · refine wq_iload_n 2 rfl rfl dX10_layOutField_8 ?_
    refine wq_if_lt 27 rfl dX10_layOutField_9 (fun c6 => ?_) (fun c6 => ?_)
    · refine wq_iconst (z := 0) (zlit rfl) dX10_layOutField_27 ?_
      exact wp_zret (Or.inl rfl) rfl dX10_layOutField_28 ((q3.2 c5).1 c6)
    · refine wq_iload_n 2 rfl rfl dX10_layOutField_12 ?_
      refine wq_aload_n 0 rfl rfl dX10_layOutField_13 ?_
      refine wq_getR fk_X10_75 tT_1 (fun _ _ _ => rfl) (sh_10_8 hS4) (by decide) dX10_layOutField_14 ?_
      refine wq_getI fk_X10_199 tT_215 (fun _ _ _ => rfl) dX10_layOutField_17 ?_
      refine wq_icmp_ge 27 rfl dX10_layOutField_20 (fun c7 => ?_) (fun c7 => ?_)
      · refine wq_iconst (z := 0) (zlit rfl) dX10_layOutField_27 ?_
        exact wp_zret (Or.inl rfl) rfl dX10_layOutField_28 (((q3.2 c5).2 c6).1 c7)
      · refine wq_iconst (z := 1) (zlit rfl) dX10_layOutField_23 ?_
        refine wq_goto 28 rfl dX10_layOutField_24 ?_
        exact wp_zret (Or.inr rfl) rfl dX10_layOutField_28 (((q3.2 c5).2 c6).2 c7)
theorem dX10_fieldsOf_0 : decode cX10_fieldsOf 0 = .ok (.aload_n 0, 1) := by decide +kernel
theorem dX10_fieldsOf_1 : decode cX10_fieldsOf 1 = .ok (.iload_n 1, 1) := by decide +kernel
theorem dX10_fieldsOf_2 : decode cX10_fieldsOf 2 = .ok (.invokevirtual 169, 3) := by decide +kernel
theorem dX10_fieldsOf_5 : decode cX10_fieldsOf 5 = .ok (.ifCond .eq 13, 3) := by decide +kernel
theorem dX10_fieldsOf_8 : decode cX10_fieldsOf 8 = .ok (.aload_n 0, 1) := by decide +kernel
theorem dX10_fieldsOf_9 : decode cX10_fieldsOf 9 = .ok (.getfield 75, 3) := by decide +kernel
theorem dX10_fieldsOf_12 : decode cX10_fieldsOf 12 = .ok (.getfield 199, 3) := by decide +kernel
theorem dX10_fieldsOf_15 : decode cX10_fieldsOf 15 = .ok (.goto 4, 3) := by decide +kernel
theorem dX10_fieldsOf_18 : decode cX10_fieldsOf 18 = .ok (.iconst 0, 1) := by decide +kernel
theorem dX10_fieldsOf_19 : decode cX10_fieldsOf 19 = .ok (.ireturn, 1) := by decide +kernel
theorem vc_X10_fieldsOf_0 {G : zG} {d : Nat} {Q : Option zV → zHp → Prop} (p1 : Int) (h : zHp) (hS : zSh h) (hd : 6 ≤ d)  
    (hv : (wpN G (d - 1) M_X10_layOut 0 (zar 0 [vR 1, vI p1]) [] h (qI (fun z1 h2 => zSh h2 ∧ ((z1 = 0 → Q (some (vI 0)) h2) ∧ (z1 ≠ 0 → Q (some (vI (gI h2 215 1))) h2)))))) : wpN G d M_X10_fieldsOf 0 [(0, vR 1), (1, vI p1)] [] h Q := by
  refine wq_aload_n 0 rfl rfl dX10_fieldsOf_0 ?_
  refine wq_iload_n 1 rfl rfl dX10_fieldsOf_1 ?_
  refine wN_V (As := [vI p1]) vm_X10_layOut lk_X10_169 tT_1 rfl rfl (Nat.le_of_ble_eq_true rfl) (Nat.le_of_ble_eq_true rfl) (d' := d - 1) (by omega) dX10_fieldsOf_2 hv (fun v9 h2 q3 => ?_)
  obtain ⟨z1, rfl, hS4, q3⟩ := q3
  refine wq_st (st' := [vI z1]) rfl ?_
  refine wq_if_eq 18 rfl dX10_fieldsOf_5 (fun c5 => ?_) (fun c5 => ?_)
  · refine wq_iconst (z := 0) (zlit rfl) dX10_fieldsOf_18 ?_
    exact wp_iret rfl dX10_fieldsOf_19 (q3.1 c5)
  · refine wq_aload_n 0 rfl rfl dX10_fieldsOf_8 ?_
    refine wq_getR fk_X10_75 tT_1 (fun _ _ _ => rfl) (sh_10_8 hS4) (by decide) dX10_fieldsOf_9 ?_
    refine wq_getI fk_X10_199 tT_215 (fun _ _ _ => rfl) dX10_fieldsOf_12 ?_
    refine wq_goto 19 rfl dX10_fieldsOf_15 ?_
    exact wp_iret rfl dX10_fieldsOf_19 (q3.2 c5)
theorem dX10_overlayProperty_0 : decode cX10_overlayProperty 0 = .ok (.iload_n 2, 1) := by decide +kernel
theorem dX10_overlayProperty_1 : decode cX10_overlayProperty 1 = .ok (.tableswitch 79 0 4 #[35, 45, 55, 63, 71], 35) := by decide +kernel
theorem dX10_overlayProperty_36 : decode cX10_overlayProperty 36 = .ok (.aload_n 0, 1) := by decide +kernel
theorem dX10_overlayProperty_37 : decode cX10_overlayProperty 37 = .ok (.getfield 27, 3) := by decide +kernel
theorem dX10_overlayProperty_40 : decode cX10_overlayProperty 40 = .ok (.getfield 154, 3) := by decide +kernel
theorem dX10_overlayProperty_43 : decode cX10_overlayProperty 43 = .ok (.iload_n 1, 1) := by decide +kernel
theorem dX10_overlayProperty_44 : decode cX10_overlayProperty 44 = .ok (.iaload, 1) := by decide +kernel
theorem dX10_overlayProperty_45 : decode cX10_overlayProperty 45 = .ok (.ireturn, 1) := by decide +kernel
theorem dX10_overlayProperty_46 : decode cX10_overlayProperty 46 = .ok (.aload_n 0, 1) := by decide +kernel
theorem dX10_overlayProperty_47 : decode cX10_overlayProperty 47 = .ok (.getfield 27, 3) := by decide +kernel
theorem dX10_overlayProperty_50 : decode cX10_overlayProperty 50 = .ok (.getfield 157, 3) := by decide +kernel
theorem dX10_overlayProperty_53 : decode cX10_overlayProperty 53 = .ok (.iload_n 1, 1) := by decide +kernel
theorem dX10_overlayProperty_54 : decode cX10_overlayProperty 54 = .ok (.iaload, 1) := by decide +kernel
theorem dX10_overlayProperty_55 : decode cX10_overlayProperty 55 = .ok (.ireturn, 1) := by decide +kernel
theorem dX10_overlayProperty_56 : decode cX10_overlayProperty 56 = .ok (.aload_n 0, 1) := by decide +kernel
theorem dX10_overlayProperty_57 : decode cX10_overlayProperty 57 = .ok (.getfield 75, 3) := by decide +kernel
theorem dX10_overlayProperty_60 : decode cX10_overlayProperty 60 = .ok (.getfield 199, 3) := by decide +kernel
theorem dX10_overlayProperty_63 : decode cX10_overlayProperty 63 = .ok (.ireturn, 1) := by decide +kernel
theorem dX10_overlayProperty_64 : decode cX10_overlayProperty 64 = .ok (.aload_n 0, 1) := by decide +kernel
theorem dX10_overlayProperty_65 : decode cX10_overlayProperty 65 = .ok (.getfield 75, 3) := by decide +kernel
theorem dX10_overlayProperty_68 : decode cX10_overlayProperty 68 = .ok (.getfield 285, 3) := by decide +kernel
theorem dX10_overlayProperty_71 : decode cX10_overlayProperty 71 = .ok (.ireturn, 1) := by decide +kernel
theorem dX10_overlayProperty_72 : decode cX10_overlayProperty 72 = .ok (.aload_n 0, 1) := by decide +kernel
theorem dX10_overlayProperty_73 : decode cX10_overlayProperty 73 = .ok (.getfield 75, 3) := by decide +kernel
theorem dX10_overlayProperty_76 : decode cX10_overlayProperty 76 = .ok (.getfield 288, 3) := by decide +kernel
theorem dX10_overlayProperty_79 : decode cX10_overlayProperty 79 = .ok (.ireturn, 1) := by decide +kernel
theorem dX10_overlayProperty_80 : decode cX10_overlayProperty 80 = .ok (.aload_n 0, 1) := by decide +kernel
theorem dX10_overlayProperty_81 : decode cX10_overlayProperty 81 = .ok (.invokevirtual 291, 3) := by decide +kernel
theorem dX10_overlayProperty_84 : decode cX10_overlayProperty 84 = .ok (.ireturn, 1) := by decide +kernel
theorem vc_X10_overlayProperty_0 {G : zG} {d : Nat} {Q : Option zV → zHp → Prop} (p1 : Int) (p2 : Int) (h : zHp) (hS : zSh h) (hd : 4 ≤ d)  
    (hv : ((p2 < 0 ∨ 4 < p2 → (wpN G (d - 1) M_X10_wrongFields 0 (zar 0 [vR 1]) [] h (qI (fun z2 h3 => zSh h3 ∧ Q (some (vI z2)) h3)))) ∧ (p2 = 0 + ((0 : Nat) : Int) → (((0 : Int) ≤ p1 ∧ p1 < ((4 : Nat) : Int)) ∧ Q (some (vI (gI h 11 p1.toNat))) h)) ∧ (p2 = 0 + ((1 : Nat) : Int) → (((0 : Int) ≤ p1 ∧ p1 < ((4 : Nat) : Int)) ∧ Q (some (vI (gI h 12 p1.toNat))) h)) ∧ (p2 = 0 + ((2 : Nat) : Int) → Q (some (vI (gI h 215 1))) h) ∧ (p2 = 0 + ((3 : Nat) : Int) → Q (some (vI (gI h 215 2))) h) ∧ (p2 = 0 + ((4 : Nat) : Int) → Q (some (vI (gI h 215 3))) h))) : wpN G d M_X10_overlayProperty 0 [(0, vR 1), (1, vI p1), (2, vI p2)] [] h Q := by
  refine wq_iload_n 2 rfl rfl dX10_overlayProperty_0 ?_
  refine wq_tsw 80 [36, 46, 56, 64, 72] rfl rfl rfl dX10_overlayProperty_1 (fun c1 => ?_) (fun j tg hj ej => ?_)
  · refine wq_aload_n 0 rfl rfl dX10_overlayProperty_80 ?_
    refine wN_V (As := []) vm_X10_wrongFields lk_X10_291 tT_1 rfl rfl (Nat.le_of_ble_eq_true rfl) (Nat.le_of_ble_eq_true rfl) (d' := d - 1) (by omega) dX10_overlayProperty_81 (hv.1 c1) (fun v9 h3 q4 => ?_)
    obtain ⟨z2, rfl, hS5, q4⟩ := q4
    refine wq_st (st' := [vI z2]) rfl ?_
    exact wp_iret rfl dX10_overlayProperty_84 q4
  · match j, hj, ej with
    | 0, hj, ej =>
      cases hj
      refine wq_aload_n 0 rfl rfl dX10_overlayProperty_36 ?_
      refine wq_getR fk_X10_27 tT_1 (fun _ _ _ => rfl) (sh_10_3 hS) (by decide) dX10_overlayProperty_37 ?_
      refine wq_getR (r := 11) fk_X10_154 tT_8 (fun _ _ _ => rfl) (sh_2_1 hS tT_8) (by decide) dX10_overlayProperty_40 ?_
      refine wq_iload_n 1 rfl rfl dX10_overlayProperty_43 ?_
      refine wq_iald tT_11 (hv.2.1 ej).1.1 (hv.2.1 ej).1.2 dX10_overlayProperty_44 ?_
      exact wp_iret rfl dX10_overlayProperty_45 (hv.2.1 ej).2
    | 1, hj, ej =>
      cases hj
      refine wq_aload_n 0 rfl rfl dX10_overlayProperty_46 ?_
      refine wq_getR fk_X10_27 tT_1 (fun _ _ _ => rfl) (sh_10_3 hS) (by decide) dX10_overlayProperty_47 ?_
      refine wq_getR (r := 12) fk_X10_157 tT_8 (fun _ _ _ => rfl) (sh_2_2 hS tT_8) (by decide) dX10_overlayProperty_50 ?_
      refine wq_iload_n 1 rfl rfl dX10_overlayProperty_53 ?_
      refine wq_iald tT_12 (hv.2.2.1 ej).1.1 (hv.2.2.1 ej).1.2 dX10_overlayProperty_54 ?_
      exact wp_iret rfl dX10_overlayProperty_55 (hv.2.2.1 ej).2
    | 2, hj, ej =>
      cases hj
      refine wq_aload_n 0 rfl rfl dX10_overlayProperty_56 ?_
      refine wq_getR fk_X10_75 tT_1 (fun _ _ _ => rfl) (sh_10_8 hS) (by decide) dX10_overlayProperty_57 ?_
      refine wq_getI fk_X10_199 tT_215 (fun _ _ _ => rfl) dX10_overlayProperty_60 ?_
      exact wp_iret rfl dX10_overlayProperty_63 (hv.2.2.2.1 ej)
    | 3, hj, ej =>
      cases hj
      refine wq_aload_n 0 rfl rfl dX10_overlayProperty_64 ?_
      refine wq_getR fk_X10_75 tT_1 (fun _ _ _ => rfl) (sh_10_8 hS) (by decide) dX10_overlayProperty_65 ?_
      refine wq_getI fk_X10_285 tT_215 (fun _ _ _ => rfl) dX10_overlayProperty_68 ?_
      exact wp_iret rfl dX10_overlayProperty_71 (hv.2.2.2.2.1 ej)
    | 4, hj, ej =>
      cases hj
      refine wq_aload_n 0 rfl rfl dX10_overlayProperty_72 ?_
      refine wq_getR fk_X10_75 tT_1 (fun _ _ _ => rfl) (sh_10_8 hS) (by decide) dX10_overlayProperty_73 ?_
      refine wq_getI fk_X10_288 tT_215 (fun _ _ _ => rfl) dX10_overlayProperty_76 ?_
      exact wp_iret rfl dX10_overlayProperty_79 (hv.2.2.2.2.2 ej)
    | j + 5, hj, ej => exact absurd hj (by simp)
theorem dX10_wrongFields_0 : decode cX10_wrongFields 0 = .ok (.iconst 0, 1) := by decide +kernel
theorem dX10_wrongFields_1 : decode cX10_wrongFields 1 = .ok (.istore_n 1, 1) := by decide +kernel
theorem dX10_wrongFields_2 : decode cX10_wrongFields 2 = .ok (.iconst 0, 1) := by decide +kernel
theorem dX10_wrongFields_3 : decode cX10_wrongFields 3 = .ok (.istore_n 2, 1) := by decide +kernel
theorem dX10_wrongFields_4 : decode cX10_wrongFields 4 = .ok (.iload_n 2, 1) := by decide +kernel
theorem dX10_wrongFields_5 : decode cX10_wrongFields 5 = .ok (.aload_n 0, 1) := by decide +kernel
theorem dX10_wrongFields_6 : decode cX10_wrongFields 6 = .ok (.getfield 75, 3) := by decide +kernel
theorem dX10_wrongFields_9 : decode cX10_wrongFields 9 = .ok (.getfield 199, 3) := by decide +kernel
theorem dX10_wrongFields_12 : decode cX10_wrongFields 12 = .ok (.if_icmp .ge 34, 3) := by decide +kernel
theorem dX10_wrongFields_15 : decode cX10_wrongFields 15 = .ok (.aload_n 0, 1) := by decide +kernel
theorem dX10_wrongFields_16 : decode cX10_wrongFields 16 = .ok (.getfield 75, 3) := by decide +kernel
theorem dX10_wrongFields_19 : decode cX10_wrongFields 19 = .ok (.getfield 179, 3) := by decide +kernel
theorem dX10_wrongFields_22 : decode cX10_wrongFields 22 = .ok (.iload_n 2, 1) := by decide +kernel
theorem dX10_wrongFields_23 : decode cX10_wrongFields 23 = .ok (.aaload, 1) := by decide +kernel
theorem dX10_wrongFields_24 : decode cX10_wrongFields 24 = .ok (.aload_n 0, 1) := by decide +kernel
theorem dX10_wrongFields_25 : decode cX10_wrongFields 25 = .ok (.getfield 27, 3) := by decide +kernel
theorem dX10_wrongFields_28 : decode cX10_wrongFields 28 = .ok (.getfield 69, 3) := by decide +kernel
theorem dX10_wrongFields_31 : decode cX10_wrongFields 31 = .ok (.invokestatic 228, 3) := by decide +kernel
theorem dX10_wrongFields_34 : decode cX10_wrongFields 34 = .ok (.ifCond .eq 6, 3) := by decide +kernel
theorem dX10_wrongFields_37 : decode cX10_wrongFields 37 = .ok (.iinc 1 1, 3) := by decide +kernel
theorem dX10_wrongFields_40 : decode cX10_wrongFields 40 = .ok (.iinc 2 1, 3) := by decide +kernel
theorem dX10_wrongFields_43 : decode cX10_wrongFields 43 = .ok (.goto (-39), 3) := by decide +kernel
theorem dX10_wrongFields_46 : decode cX10_wrongFields 46 = .ok (.iload_n 1, 1) := by decide +kernel
theorem dX10_wrongFields_47 : decode cX10_wrongFields 47 = .ok (.ireturn, 1) := by decide +kernel
theorem vc_X10_wrongFields_0 {G : zG} {d : Nat} {Q : Option zV → zHp → Prop}  (h : zHp) (hS : zSh h) (hd : 3 ≤ d) (I_4 : Int → Int → zHp → Prop) (hI_4 : ∀ (y1 : Int) (y2 : Int) (h' : zHp), I_4 y1 y2 h' → wpN G d M_X10_wrongFields 4 [(0, vR 1), (1, vI y1), (2, vI y2)] [] h' Q) 
    (hv : (zSh h → I_4 0 0 h)) : wpN G d M_X10_wrongFields 0 [(0, vR 1)] [] h Q := by
  refine wq_iconst (z := 0) (zlit rfl) dX10_wrongFields_0 ?_
  refine wq_istore_n (ls' := [(0, vR 1), (1, vI 0)]) rfl (by decide) rfl dX10_wrongFields_1 ?_
  refine wq_iconst (z := 0) (zlit rfl) dX10_wrongFields_2 ?_
  refine wq_istore_n (ls' := [(0, vR 1), (1, vI 0), (2, vI 0)]) rfl (by decide) rfl dX10_wrongFields_3 ?_
  exact wq_pick [0, 1, 2] rfl (hI_4 0 0 h (hv hS))
theorem vc_X10_wrongFields_4 {G : zG} {d : Nat} {Q : Option zV → zHp → Prop} (y1 : Int) (y2 : Int) (h : zHp) (hS : zSh h) (hd : 3 ≤ d) (I_4 : Int → Int → zHp → Prop) (hI_4 : ∀ (y1 : Int) (y2 : Int) (h' : zHp), I_4 y1 y2 h' → wpN G d M_X10_wrongFields 4 [(0, vR 1), (1, vI y1), (2, vI y2)] [] h' Q) 
    (hv : (((gI h 215 1) ≤ y2 → Q (some (vI y1)) h) ∧ (y2 < (gI h 215 1) → (((0 : Int) ≤ y2 ∧ y2 < ((60 : Nat) : Int)) ∧ (wpN G (d - 1) M_X1_isWrong 0 (zar 0 [vR (217 + 2 * y2.toNat), vR 9]) [] h (qI (fun z2 h3 => zSh h3 ∧ ((z2 = 0 → ((-2147483648 ≤ y2 + 1 ∧ y2 + 1 ≤ 2147483647) ∧ ∀ x7 : Int, x7 = y2 + 1 → (zSh h3 → I_4 y1 x7 h3))) ∧ (z2 ≠ 0 → ((-2147483648 ≤ y1 + 1 ∧ y1 + 1 ≤ 2147483647) ∧ ∀ x9 : Int, x9 = y1 + 1 → ((-2147483648 ≤ y2 + 1 ∧ y2 + 1 ≤ 2147483647) ∧ ∀ x11 : Int, x11 = y2 + 1 → (zSh h3 → I_4 x9 x11 h3)))))))))))) : wpN G d M_X10_wrongFields 4 [(0, vR 1), (1, vI y1), (2, vI y2)] [] h Q := by
  refine wq_iload_n 2 rfl rfl dX10_wrongFields_4 ?_
  refine wq_aload_n 0 rfl rfl dX10_wrongFields_5 ?_
  refine wq_getR fk_X10_75 tT_1 (fun _ _ _ => rfl) (sh_10_8 hS) (by decide) dX10_wrongFields_6 ?_
  refine wq_getI fk_X10_199 tT_215 (fun _ _ _ => rfl) dX10_wrongFields_9 ?_
  refine wq_icmp_ge 46 rfl dX10_wrongFields_12 (fun c1 => ?_) (fun c1 => ?_)
  · refine wq_iload_n 1 rfl rfl dX10_wrongFields_46 ?_
    exact wp_iret rfl dX10_wrongFields_47 (hv.1 c1)
  · refine wq_aload_n 0 rfl rfl dX10_wrongFields_15 ?_
    refine wq_getR fk_X10_75 tT_1 (fun _ _ _ => rfl) (sh_10_8 hS) (by decide) dX10_wrongFields_16 ?_
    refine wq_getR fk_X10_179 tT_215 (fun _ _ _ => rfl) (sh_6_0 hS) (by decide) dX10_wrongFields_19 ?_
    refine wq_iload_n 2 rfl rfl dX10_wrongFields_22 ?_
    refine wq_aald (r := (217 + 2 * y2.toNat)) tT_216 (by decide) (by decide) rfl (hv.2 c1).1.1 (hv.2 c1).1.2 (sh_fds hS (zlt_n (hv.2 c1).1.1 (hv.2 c1).1.2)) (by omega) dX10_wrongFields_23 ?_
    refine wq_aload_n 0 rfl rfl dX10_wrongFields_24 ?_
    refine wq_getR fk_X10_27 tT_1 (fun _ _ _ => rfl) (sh_10_3 hS) (by decide) dX10_wrongFields_25 ?_
    refine wq_getR (r := 9) fk_X10_69 tT_8 (fun _ _ _ => rfl) (sh_2_0 hS tT_8) (by decide) dX10_wrongFields_28 ?_
    refine wN_S (As := [vR (217 + 2 * y2.toNat), vR 9]) md_X1_isWrong ms_X1_isWrong lk_X10_228 rfl rfl (Nat.le_of_ble_eq_true rfl) (Nat.le_of_ble_eq_true rfl) (d' := d - 1) (by omega) dX10_wrongFields_31 (hv.2 c1).2 (fun v9 h3 q4 => ?_)
    obtain ⟨z2, rfl, hS5, q4⟩ := q4
    refine wq_st (st' := [vI z2]) rfl ?_
    refine wq_if_eq 40 rfl dX10_wrongFields_34 (fun c6 => ?_) (fun c6 => ?_)
    · refine z_nm (y2 + 1) (fun x7 e8 => ?_)
      refine wq_iinc (y := x7) (ls' := [(0, vR 1), (1, vI y1), (2, vI x7)]) 2 rfl e8.symm (by rw [e8]; exact (q4.1 c6).1) (by decide) rfl dX10_wrongFields_40 ?_
      refine wq_goto 4 rfl dX10_wrongFields_43 ?_
      exact wq_pick [0, 1, 2] rfl (hI_4 y1 x7 h3 (((q4.1 c6).2 x7 e8) hS5))
    · refine z_nm (y1 + 1) (fun x9 e10 => ?_)
      refine wq_iinc (y := x9) (ls' := [(0, vR 1), (1, vI x9), (2, vI y2)]) 1 rfl e10.symm (by rw [e10]; exact (q4.2 c6).1) (by decide) rfl dX10_wrongFields_37 ?_
      refine z_nm (y2 + 1) (fun x11 e12 => ?_)
      refine wq_iinc (y := x11) (ls' := [(0, vR 1), (1, vI x9), (2, vI x11)]) 2 rfl e12.symm (by rw [e12]; exact ((q4.2 c6).2 x9 e10).1) (by decide) rfl dX10_wrongFields_40 ?_
      refine wq_goto 4 rfl dX10_wrongFields_43 ?_
      exact wq_pick [0, 1, 2] rfl (hI_4 x9 x11 h3 ((((q4.2 c6).2 x9 e10).2 x11 e12) hS5))
theorem dX10_wrongFieldsOfAll_0 : decode cX10_wrongFieldsOfAll 0 = .ok (.iconst 0, 1) := by decide +kernel
theorem dX10_wrongFieldsOfAll_1 : decode cX10_wrongFieldsOfAll 1 = .ok (.istore_n 1, 1) := by decide +kernel
theorem dX10_wrongFieldsOfAll_2 : decode cX10_wrongFieldsOfAll 2 = .ok (.iconst 0, 1) := by decide +kernel
theorem dX10_wrongFieldsOfAll_3 : decode cX10_wrongFieldsOfAll 3 = .ok (.istore_n 2, 1) := by decide +kernel
theorem dX10_wrongFieldsOfAll_4 : decode cX10_wrongFieldsOfAll 4 = .ok (.iload_n 2, 1) := by decide +kernel
theorem dX10_wrongFieldsOfAll_5 : decode cX10_wrongFieldsOfAll 5 = .ok (.iconst 4, 1) := by decide +kernel
theorem dX10_wrongFieldsOfAll_6 : decode cX10_wrongFieldsOfAll 6 = .ok (.if_icmp .ge 24, 3) := by decide +kernel
theorem dX10_wrongFieldsOfAll_9 : decode cX10_wrongFieldsOfAll 9 = .ok (.aload_n 0, 1) := by decide +kernel
theorem dX10_wrongFieldsOfAll_10 : decode cX10_wrongFieldsOfAll 10 = .ok (.iload_n 2, 1) := by decide +kernel
theorem dX10_wrongFieldsOfAll_11 : decode cX10_wrongFieldsOfAll 11 = .ok (.invokevirtual 169, 3) := by decide +kernel
theorem dX10_wrongFieldsOfAll_14 : decode cX10_wrongFieldsOfAll 14 = .ok (.ifCond .eq 10, 3) := by decide +kernel
theorem dX10_wrongFieldsOfAll_17 : decode cX10_wrongFieldsOfAll 17 = .ok (.iload_n 1, 1) := by decide +kernel
theorem dX10_wrongFieldsOfAll_18 : decode cX10_wrongFieldsOfAll 18 = .ok (.aload_n 0, 1) := by decide +kernel
theorem dX10_wrongFieldsOfAll_19 : decode cX10_wrongFieldsOfAll 19 = .ok (.invokevirtual 291, 3) := by decide +kernel
theorem dX10_wrongFieldsOfAll_22 : decode cX10_wrongFieldsOfAll 22 = .ok (.iadd, 1) := by decide +kernel
theorem dX10_wrongFieldsOfAll_23 : decode cX10_wrongFieldsOfAll 23 = .ok (.istore_n 1, 1) := by decide +kernel
theorem dX10_wrongFieldsOfAll_24 : decode cX10_wrongFieldsOfAll 24 = .ok (.iinc 2 1, 3) := by decide +kernel
theorem dX10_wrongFieldsOfAll_27 : decode cX10_wrongFieldsOfAll 27 = .ok (.goto (-23), 3) := by decide +kernel
theorem dX10_wrongFieldsOfAll_30 : decode cX10_wrongFieldsOfAll 30 = .ok (.iload_n 1, 1) := by decide +kernel
theorem dX10_wrongFieldsOfAll_31 : decode cX10_wrongFieldsOfAll 31 = .ok (.ireturn, 1) := by decide +kernel
theorem vc_X10_wrongFieldsOfAll_0 {G : zG} {d : Nat} {Q : Option zV → zHp → Prop}  (h : zHp) (hS : zSh h) (hd : 6 ≤ d) (I_4 : Int → Int → zHp → Prop) (hI_4 : ∀ (y1 : Int) (y2 : Int) (h' : zHp), I_4 y1 y2 h' → wpN G d M_X10_wrongFieldsOfAll 4 [(0, vR 1), (1, vI y1), (2, vI y2)] [] h' Q) 
    (hv : (zSh h → I_4 0 0 h)) : wpN G d M_X10_wrongFieldsOfAll 0 [(0, vR 1)] [] h Q := by
  refine wq_iconst (z := 0) (zlit rfl) dX10_wrongFieldsOfAll_0 ?_
  refine wq_istore_n (ls' := [(0, vR 1), (1, vI 0)]) rfl (by decide) rfl dX10_wrongFieldsOfAll_1 ?_
  refine wq_iconst (z := 0) (zlit rfl) dX10_wrongFieldsOfAll_2 ?_
  refine wq_istore_n (ls' := [(0, vR 1), (1, vI 0), (2, vI 0)]) rfl (by decide) rfl dX10_wrongFieldsOfAll_3 ?_
  exact wq_pick [0, 1, 2] rfl (hI_4 0 0 h (hv hS))
theorem vc_X10_wrongFieldsOfAll_4 {G : zG} {d : Nat} {Q : Option zV → zHp → Prop} (y1 : Int) (y2 : Int) (h : zHp) (hS : zSh h) (hd : 6 ≤ d) (I_4 : Int → Int → zHp → Prop) (hI_4 : ∀ (y1 : Int) (y2 : Int) (h' : zHp), I_4 y1 y2 h' → wpN G d M_X10_wrongFieldsOfAll 4 [(0, vR 1), (1, vI y1), (2, vI y2)] [] h' Q) 
    (hv : ((4 ≤ y2 → Q (some (vI y1)) h) ∧ (y2 < 4 → (wpN G (d - 1) M_X10_layOut 0 (zar 0 [vR 1, vI y2]) [] h (qI (fun z2 h3 => zSh h3 ∧ ((z2 = 0 → ((-2147483648 ≤ y2 + 1 ∧ y2 + 1 ≤ 2147483647) ∧ ∀ x7 : Int, x7 = y2 + 1 → (zSh h3 → I_4 y1 x7 h3))) ∧ (z2 ≠ 0 → (wpN G (d - 1) M_X10_wrongFields 0 (zar 0 [vR 1]) [] h3 (qI (fun z9 h10 => zSh h10 ∧ ((-2147483648 ≤ y1 + z9 ∧ y1 + z9 ≤ 2147483647) ∧ (∀ x13 : Int, x13 = (y1 + z9) → ((-2147483648 ≤ y2 + 1 ∧ y2 + 1 ≤ 2147483647) ∧ ∀ x15 : Int, x15 = y2 + 1 → (zSh h10 → I_4 x13 x15 h10))))))))))))))) : wpN G d M_X10_wrongFieldsOfAll 4 [(0, vR 1), (1, vI y1), (2, vI y2)] [] h Q := by
  refine wq_iload_n 2 rfl rfl dX10_wrongFieldsOfAll_4 ?_
  refine wq_iconst (z := 4) (zlit rfl) dX10_wrongFieldsOfAll_5 ?_
  refine wq_icmp_ge 30 rfl dX10_wrongFieldsOfAll_6 (fun c1 => ?_) (fun c1 => ?_)
  · refine wq_iload_n 1 rfl rfl dX10_wrongFieldsOfAll_30 ?_
    exact wp_iret rfl dX10_wrongFieldsOfAll_31 (hv.1 c1)
  · refine wq_aload_n 0 rfl rfl dX10_wrongFieldsOfAll_9 ?_
    refine wq_iload_n 2 rfl rfl dX10_wrongFieldsOfAll_10 ?_
    refine wN_V (As := [vI y2]) vm_X10_layOut lk_X10_169 tT_1 rfl rfl (Nat.le_of_ble_eq_true rfl) (Nat.le_of_ble_eq_true rfl) (d' := d - 1) (by omega) dX10_wrongFieldsOfAll_11 (hv.2 c1) (fun v9 h3 q4 => ?_)
    obtain ⟨z2, rfl, hS5, q4⟩ := q4
    refine wq_st (st' := [vI z2]) rfl ?_
    refine wq_if_eq 24 rfl dX10_wrongFieldsOfAll_14 (fun c6 => ?_) (fun c6 => ?_)
    · refine z_nm (y2 + 1) (fun x7 e8 => ?_)
      refine wq_iinc (y := x7) (ls' := [(0, vR 1), (1, vI y1), (2, vI x7)]) 2 rfl e8.symm (by rw [e8]; exact (q4.1 c6).1) (by decide) rfl dX10_wrongFieldsOfAll_24 ?_
      refine wq_goto 4 rfl dX10_wrongFieldsOfAll_27 ?_
      exact wq_pick [0, 1, 2] rfl (hI_4 y1 x7 h3 (((q4.1 c6).2 x7 e8) hS5))
    · refine wq_iload_n 1 rfl rfl dX10_wrongFieldsOfAll_17 ?_
      refine wq_aload_n 0 rfl rfl dX10_wrongFieldsOfAll_18 ?_
      refine wN_V (As := []) vm_X10_wrongFields lk_X10_291 tT_1 rfl rfl (Nat.le_of_ble_eq_true rfl) (Nat.le_of_ble_eq_true rfl) (d' := d - 1) (by omega) dX10_wrongFieldsOfAll_19 (q4.2 c6) (fun v9 h10 q11 => ?_)
      obtain ⟨z9, rfl, hS12, q11⟩ := q11
      refine wq_st (st' := [vI z9, vI y1]) rfl ?_
      refine wq_iadd q11.1 dX10_wrongFieldsOfAll_22 ?_
      refine wq_topI (fun x13 e14 => ?_)
      refine wq_istore_n (ls' := [(0, vR 1), (1, vI x13), (2, vI y2)]) rfl (by decide) rfl dX10_wrongFieldsOfAll_23 ?_
      refine z_nm (y2 + 1) (fun x15 e16 => ?_)
      refine wq_iinc (y := x15) (ls' := [(0, vR 1), (1, vI x13), (2, vI x15)]) 2 rfl e16.symm (by rw [e16]; exact (q11.2 x13 e14).1) (by decide) rfl dX10_wrongFieldsOfAll_24 ?_
      refine wq_goto 4 rfl dX10_wrongFieldsOfAll_27 ?_
      exact wq_pick [0, 1, 2] rfl (hI_4 x13 x15 h10 (((q11.2 x13 e14).2 x15 e16) hS12))
theorem dX10_numberOf_0 : decode cX10_numberOf 0 = .ok (.iload_n 1, 1) := by decide +kernel
theorem dX10_numberOf_1 : decode cX10_numberOf 1 = .ok (.tableswitch 104 0 6 #[43, 51, 56, 64, 80, 88, 96], 43) := by decide +kernel
theorem dX10_numberOf_44 : decode cX10_numberOf 44 = .ok (.aload_n 0, 1) := by decide +kernel
theorem dX10_numberOf_45 : decode cX10_numberOf 45 = .ok (.getfield 27, 3) := by decide +kernel
theorem dX10_numberOf_48 : decode cX10_numberOf 48 = .ok (.invokevirtual 294, 3) := by decide +kernel
theorem dX10_numberOf_51 : decode cX10_numberOf 51 = .ok (.ireturn, 1) := by decide +kernel
theorem dX10_numberOf_52 : decode cX10_numberOf 52 = .ok (.aload_n 0, 1) := by decide +kernel
theorem dX10_numberOf_53 : decode cX10_numberOf 53 = .ok (.invokevirtual 297, 3) := by decide +kernel
theorem dX10_numberOf_56 : decode cX10_numberOf 56 = .ok (.ireturn, 1) := by decide +kernel
theorem dX10_numberOf_57 : decode cX10_numberOf 57 = .ok (.aload_n 0, 1) := by decide +kernel
theorem dX10_numberOf_58 : decode cX10_numberOf 58 = .ok (.getfield 36, 3) := by decide +kernel
theorem dX10_numberOf_61 : decode cX10_numberOf 61 = .ok (.getfield 239, 3) := by decide +kernel
theorem dX10_numberOf_64 : decode cX10_numberOf 64 = .ok (.ireturn, 1) := by decide +kernel
theorem dX10_numberOf_65 : decode cX10_numberOf 65 = .ok (.aload_n 0, 1) := by decide +kernel
theorem dX10_numberOf_66 : decode cX10_numberOf 66 = .ok (.getfield 36, 3) := by decide +kernel
theorem dX10_numberOf_69 : decode cX10_numberOf 69 = .ok (.getfield 245, 3) := by decide +kernel
theorem dX10_numberOf_72 : decode cX10_numberOf 72 = .ok (.aload_n 0, 1) := by decide +kernel
theorem dX10_numberOf_73 : decode cX10_numberOf 73 = .ok (.getfield 36, 3) := by decide +kernel
theorem dX10_numberOf_76 : decode cX10_numberOf 76 = .ok (.getfield 239, 3) := by decide +kernel
theorem dX10_numberOf_79 : decode cX10_numberOf 79 = .ok (.isub, 1) := by decide +kernel
theorem dX10_numberOf_80 : decode cX10_numberOf 80 = .ok (.ireturn, 1) := by decide +kernel
theorem dX10_numberOf_81 : decode cX10_numberOf 81 = .ok (.aload_n 0, 1) := by decide +kernel
theorem dX10_numberOf_82 : decode cX10_numberOf 82 = .ok (.getfield 18, 3) := by decide +kernel
theorem dX10_numberOf_85 : decode cX10_numberOf 85 = .ok (.getfield 95, 3) := by decide +kernel
theorem dX10_numberOf_88 : decode cX10_numberOf 88 = .ok (.ireturn, 1) := by decide +kernel
theorem dX10_numberOf_89 : decode cX10_numberOf 89 = .ok (.aload_n 0, 1) := by decide +kernel
theorem dX10_numberOf_90 : decode cX10_numberOf 90 = .ok (.getfield 21, 3) := by decide +kernel
theorem dX10_numberOf_93 : decode cX10_numberOf 93 = .ok (.getfield 95, 3) := by decide +kernel
theorem dX10_numberOf_96 : decode cX10_numberOf 96 = .ok (.ireturn, 1) := by decide +kernel
theorem dX10_numberOf_97 : decode cX10_numberOf 97 = .ok (.aload_n 0, 1) := by decide +kernel
theorem dX10_numberOf_98 : decode cX10_numberOf 98 = .ok (.getfield 14, 3) := by decide +kernel
theorem dX10_numberOf_101 : decode cX10_numberOf 101 = .ok (.getfield 95, 3) := by decide +kernel
theorem dX10_numberOf_104 : decode cX10_numberOf 104 = .ok (.ireturn, 1) := by decide +kernel
theorem dX10_numberOf_105 : decode cX10_numberOf 105 = .ok (.aload_n 0, 1) := by decide +kernel
theorem dX10_numberOf_106 : decode cX10_numberOf 106 = .ok (.getfield 83, 3) := by decide +kernel
theorem dX10_numberOf_109 : decode cX10_numberOf 109 = .ok (.ifCond .eq 7, 3) := by decide +kernel
theorem dX10_numberOf_112 : decode cX10_numberOf 112 = .ok (.iconst 1, 1) := by decide +kernel
theorem dX10_numberOf_113 : decode cX10_numberOf 113 = .ok (.goto 4, 3) := by decide +kernel
theorem dX10_numberOf_116 : decode cX10_numberOf 116 = .ok (.iconst 0, 1) := by decide +kernel
theorem dX10_numberOf_117 : decode cX10_numberOf 117 = .ok (.ireturn, 1) := by decide +kernel
theorem vc_X10_numberOf_0 {G : zG} {d : Nat} {Q : Option zV → zHp → Prop} (p1 : Int) (h : zHp) (hS : zSh h) (hd : 7 ≤ d)  
    (hv : ((p1 < 0 ∨ 6 < p1 → (((gI h 1 11) = 0 → Q (some (vI 0)) h) ∧ ((gI h 1 11) ≠ 0 → Q (some (vI 1)) h))) ∧ (p1 = 0 + ((0 : Nat) : Int) → (wpN G (d - 1) M_X2_presentOverlays 0 (zar 0 [vR 8]) [] h (qI (fun z3 h4 => zSh h4 ∧ Q (some (vI z3)) h4)))) ∧ (p1 = 0 + ((1 : Nat) : Int) → (wpN G (d - 1) M_X10_wrongFieldsOfAll 0 (zar 0 [vR 1]) [] h (qI (fun z7 h8 => zSh h8 ∧ Q (some (vI z7)) h8)))) ∧ (p1 = 0 + ((2 : Nat) : Int) → Q (some (vI (gI h 13 2))) h) ∧ (p1 = 0 + ((3 : Nat) : Int) → ((-2147483648 ≤ (gI h 13 3) - (gI h 13 2) ∧ (gI h 13 3) - (gI h 13 2) ≤ 2147483647) ∧ Q (some (vI ((gI h 13 3) - (gI h 13 2)))) h)) ∧ (p1 = 0 + ((4 : Nat) : Int) → Q (some (vI (gI h 4 1))) h) ∧ (p1 = 0 + ((5 : Nat) : Int) → Q (some (vI (gI h 6 1))) h) ∧ (p1 = 0 + ((6 : Nat) : Int) → Q (some (vI (gI h 2 1))) h))) : wpN G d M_X10_numberOf 0 [(0, vR 1), (1, vI p1)] [] h Q := by
  refine wq_iload_n 1 rfl rfl dX10_numberOf_0 ?_
  refine wq_tsw 105 [44, 52, 57, 65, 81, 89, 97] rfl rfl rfl dX10_numberOf_1 (fun c1 => ?_) (fun j tg hj ej => ?_)
  · refine wq_aload_n 0 rfl rfl dX10_numberOf_105 ?_
    refine wq_getI fk_X10_83 tT_1 (fun _ _ _ => rfl) dX10_numberOf_106 ?_
    refine wq_if_eq 116 rfl dX10_numberOf_109 (fun c2 => ?_) (fun c2 => ?_)
    · refine wq_iconst (z := 0) (zlit rfl) dX10_numberOf_116 ?_
      exact wp_iret rfl dX10_numberOf_117 ((hv.1 c1).1 c2)
    · refine wq_iconst (z := 1) (zlit rfl) dX10_numberOf_112 ?_
      refine wq_goto 117 rfl dX10_numberOf_113 ?_
      exact wp_iret rfl dX10_numberOf_117 ((hv.1 c1).2 c2)
  · match j, hj, ej with
    | 0, hj, ej =>
      cases hj
      refine wq_aload_n 0 rfl rfl dX10_numberOf_44 ?_
      refine wq_getR fk_X10_27 tT_1 (fun _ _ _ => rfl) (sh_10_3 hS) (by decide) dX10_numberOf_45 ?_
      refine wN_V (As := []) vm_X2_presentOverlays lk_X10_294 tT_8 rfl rfl (Nat.le_of_ble_eq_true rfl) (Nat.le_of_ble_eq_true rfl) (d' := d - 1) (by omega) dX10_numberOf_48 (hv.2.1 ej) (fun v9 h4 q5 => ?_)
      obtain ⟨z3, rfl, hS6, q5⟩ := q5
      refine wq_st (st' := [vI z3]) rfl ?_
      exact wp_iret rfl dX10_numberOf_51 q5
    | 1, hj, ej =>
      cases hj
      refine wq_aload_n 0 rfl rfl dX10_numberOf_52 ?_
      refine wN_V (As := []) vm_X10_wrongFieldsOfAll lk_X10_297 tT_1 rfl rfl (Nat.le_of_ble_eq_true rfl) (Nat.le_of_ble_eq_true rfl) (d' := d - 1) (by omega) dX10_numberOf_53 (hv.2.2.1 ej) (fun v9 h8 q9 => ?_)
      obtain ⟨z7, rfl, hS10, q9⟩ := q9
      refine wq_st (st' := [vI z7]) rfl ?_
      exact wp_iret rfl dX10_numberOf_56 q9
    | 2, hj, ej =>
      cases hj
      refine wq_aload_n 0 rfl rfl dX10_numberOf_57 ?_
      refine wq_getR fk_X10_36 tT_1 (fun _ _ _ => rfl) (sh_10_4 hS) (by decide) dX10_numberOf_58 ?_
      refine wq_getI fk_X10_239 tT_13 (fun _ _ _ => rfl) dX10_numberOf_61 ?_
      exact wp_iret rfl dX10_numberOf_64 (hv.2.2.2.1 ej)
    | 3, hj, ej =>
      cases hj
      refine wq_aload_n 0 rfl rfl dX10_numberOf_65 ?_
      refine wq_getR fk_X10_36 tT_1 (fun _ _ _ => rfl) (sh_10_4 hS) (by decide) dX10_numberOf_66 ?_
      refine wq_getI fk_X10_245 tT_13 (fun _ _ _ => rfl) dX10_numberOf_69 ?_
      refine wq_aload_n 0 rfl rfl dX10_numberOf_72 ?_
      refine wq_getR fk_X10_36 tT_1 (fun _ _ _ => rfl) (sh_10_4 hS) (by decide) dX10_numberOf_73 ?_
      refine wq_getI fk_X10_239 tT_13 (fun _ _ _ => rfl) dX10_numberOf_76 ?_
      refine wq_isub (hv.2.2.2.2.1 ej).1 dX10_numberOf_79 ?_
      exact wp_iret rfl dX10_numberOf_80 (hv.2.2.2.2.1 ej).2
    | 4, hj, ej =>
      cases hj
      refine wq_aload_n 0 rfl rfl dX10_numberOf_81 ?_
      refine wq_getR fk_X10_18 tT_1 (fun _ _ _ => rfl) (sh_10_1 hS) (by decide) dX10_numberOf_82 ?_
      refine wq_getI fk_X10_95 tT_4 (fun _ _ _ => rfl) dX10_numberOf_85 ?_
      exact wp_iret rfl dX10_numberOf_88 (hv.2.2.2.2.2.1 ej)
    | 5, hj, ej =>
      cases hj
      refine wq_aload_n 0 rfl rfl dX10_numberOf_89 ?_
      refine wq_getR fk_X10_21 tT_1 (fun _ _ _ => rfl) (sh_10_2 hS) (by decide) dX10_numberOf_90 ?_
      refine wq_getI fk_X10_95 tT_6 (fun _ _ _ => rfl) dX10_numberOf_93 ?_
      exact wp_iret rfl dX10_numberOf_96 (hv.2.2.2.2.2.2.1 ej)
    | 6, hj, ej =>
      cases hj
      refine wq_aload_n 0 rfl rfl dX10_numberOf_97 ?_
      refine wq_getR fk_X10_14 tT_1 (fun _ _ _ => rfl) (sh_10_0 hS) (by decide) dX10_numberOf_98 ?_
      refine wq_getI fk_X10_95 tT_2 (fun _ _ _ => rfl) dX10_numberOf_101 ?_
      exact wp_iret rfl dX10_numberOf_104 (hv.2.2.2.2.2.2.2 ej)
    | j + 7, hj, ej => exact absurd hj (by simp)
theorem dX10_nextDistances_0 : decode cX10_nextDistances 0 = .ok (.iload_n 1, 1) := by decide +kernel
theorem dX10_nextDistances_1 : decode cX10_nextDistances 1 = .ok (.iconst 1, 1) := by decide +kernel
theorem dX10_nextDistances_2 : decode cX10_nextDistances 2 = .ok (.isub, 1) := by decide +kernel
theorem dX10_nextDistances_3 : decode cX10_nextDistances 3 = .ok (.istore_n 3, 1) := by decide +kernel
theorem dX10_nextDistances_4 : decode cX10_nextDistances 4 = .ok (.iload_n 1, 1) := by decide +kernel
theorem dX10_nextDistances_5 : decode cX10_nextDistances 5 = .ok (.istore 4, 2) := by decide +kernel
theorem dX10_nextDistances_7 : decode cX10_nextDistances 7 = .ok (.aload_n 0, 1) := by decide +kernel
theorem dX10_nextDistances_8 : decode cX10_nextDistances 8 = .ok (.getfield 79, 3) := by decide +kernel
theorem dX10_nextDistances_11 : decode cX10_nextDistances 11 = .ok (.iconst 0, 1) := by decide +kernel
theorem dX10_nextDistances_12 : decode cX10_nextDistances 12 = .ok (.iload_n 1, 1) := by decide +kernel
theorem dX10_nextDistances_13 : decode cX10_nextDistances 13 = .ok (.iastore, 1) := by decide +kernel
theorem dX10_nextDistances_14 : decode cX10_nextDistances 14 = .ok (.iconst 1, 1) := by decide +kernel
theorem dX10_nextDistances_15 : decode cX10_nextDistances 15 = .ok (.istore 5, 2) := by decide +kernel
theorem dX10_nextDistances_17 : decode cX10_nextDistances 17 = .ok (.iload 5, 2) := by decide +kernel
theorem dX10_nextDistances_19 : decode cX10_nextDistances 19 = .ok (.iload_n 2, 1) := by decide +kernel
theorem dX10_nextDistances_20 : decode cX10_nextDistances 20 = .ok (.if_icmp .gt 94, 3) := by decide +kernel
theorem dX10_nextDistances_23 : decode cX10_nextDistances 23 = .ok (.aload_n 0, 1) := by decide +kernel
theorem dX10_nextDistances_24 : decode cX10_nextDistances 24 = .ok (.getfield 79, 3) := by decide +kernel
theorem dX10_nextDistances_27 : decode cX10_nextDistances 27 = .ok (.iload 5, 2) := by decide +kernel
theorem dX10_nextDistances_29 : decode cX10_nextDistances 29 = .ok (.iaload, 1) := by decide +kernel
theorem dX10_nextDistances_30 : decode cX10_nextDistances 30 = .ok (.istore 6, 2) := by decide +kernel
theorem dX10_nextDistances_32 : decode cX10_nextDistances 32 = .ok (.aload_n 0, 1) := by decide +kernel
theorem dX10_nextDistances_33 : decode cX10_nextDistances 33 = .ok (.getfield 21, 3) := by decide +kernel
theorem dX10_nextDistances_36 : decode cX10_nextDistances 36 = .ok (.iload_n 1, 1) := by decide +kernel
theorem dX10_nextDistances_37 : decode cX10_nextDistances 37 = .ok (.iconst 1, 1) := by decide +kernel
theorem dX10_nextDistances_38 : decode cX10_nextDistances 38 = .ok (.isub, 1) := by decide +kernel
theorem dX10_nextDistances_39 : decode cX10_nextDistances 39 = .ok (.invokevirtual 119, 3) := by decide +kernel
theorem dX10_nextDistances_42 : decode cX10_nextDistances 42 = .ok (.aload_n 0, 1) := by decide +kernel
theorem dX10_nextDistances_43 : decode cX10_nextDistances 43 = .ok (.getfield 27, 3) := by decide +kernel
theorem dX10_nextDistances_46 : decode cX10_nextDistances 46 = .ok (.getfield 69, 3) := by decide +kernel
theorem dX10_nextDistances_49 : decode cX10_nextDistances 49 = .ok (.iload 5, 2) := by decide +kernel
theorem dX10_nextDistances_51 : decode cX10_nextDistances 51 = .ok (.iconst 1, 1) := by decide +kernel
theorem dX10_nextDistances_52 : decode cX10_nextDistances 52 = .ok (.isub, 1) := by decide +kernel
theorem dX10_nextDistances_53 : decode cX10_nextDistances 53 = .ok (.invokevirtual 119, 3) := by decide +kernel
theorem dX10_nextDistances_56 : decode cX10_nextDistances 56 = .ok (.if_icmp .ne 7, 3) := by decide +kernel
theorem dX10_nextDistances_59 : decode cX10_nextDistances 59 = .ok (.iconst 1, 1) := by decide +kernel
theorem dX10_nextDistances_60 : decode cX10_nextDistances 60 = .ok (.goto 4, 3) := by decide +kernel
theorem dX10_nextDistances_63 : decode cX10_nextDistances 63 = .ok (.iconst 0, 1) := by decide +kernel
theorem dX10_nextDistances_64 : decode cX10_nextDistances 64 = .ok (.istore 7, 2) := by decide +kernel
theorem dX10_nextDistances_66 : decode cX10_nextDistances 66 = .ok (.iload 7, 2) := by decide +kernel
theorem dX10_nextDistances_68 : decode cX10_nextDistances 68 = .ok (.ifCond .eq 7, 3) := by decide +kernel
theorem dX10_nextDistances_71 : decode cX10_nextDistances 71 = .ok (.iload_n 3, 1) := by decide +kernel
theorem dX10_nextDistances_72 : decode cX10_nextDistances 72 = .ok (.goto 6, 3) := by decide +kernel
theorem dX10_nextDistances_75 : decode cX10_nextDistances 75 = .ok (.iload_n 3, 1) := by decide +kernel
theorem dX10_nextDistances_76 : decode cX10_nextDistances 76 = .ok (.iconst 1, 1) := by decide +kernel
theorem dX10_nextDistances_77 : decode cX10_nextDistances 77 = .ok (.iadd, 1) := by decide +kernel
theorem dX10_nextDistances_78 : decode cX10_nextDistances 78 = .ok (.istore 8, 2) := by decide +kernel
theorem dX10_nextDistances_80 : decode cX10_nextDistances 80 = .ok (.iload 8, 2) := by decide +kernel
theorem dX10_nextDistances_82 : decode cX10_nextDistances 82 = .ok (.iload 6, 2) := by decide +kernel
theorem dX10_nextDistances_84 : decode cX10_nextDistances 84 = .ok (.iload 4, 2) := by decide +kernel
theorem dX10_nextDistances_86 : decode cX10_nextDistances 86 = .ok (.invokestatic 140, 3) := by decide +kernel
theorem dX10_nextDistances_89 : decode cX10_nextDistances 89 = .ok (.iconst 1, 1) := by decide +kernel
theorem dX10_nextDistances_90 : decode cX10_nextDistances 90 = .ok (.iadd, 1) := by decide +kernel
theorem dX10_nextDistances_91 : decode cX10_nextDistances 91 = .ok (.invokestatic 140, 3) := by decide +kernel
theorem dX10_nextDistances_94 : decode cX10_nextDistances 94 = .ok (.istore 4, 2) := by decide +kernel
theorem dX10_nextDistances_96 : decode cX10_nextDistances 96 = .ok (.aload_n 0, 1) := by decide +kernel
theorem dX10_nextDistances_97 : decode cX10_nextDistances 97 = .ok (.getfield 79, 3) := by decide +kernel
theorem dX10_nextDistances_100 : decode cX10_nextDistances 100 = .ok (.iload 5, 2) := by decide +kernel
theorem dX10_nextDistances_102 : decode cX10_nextDistances 102 = .ok (.iload 4, 2) := by decide +kernel
theorem dX10_nextDistances_104 : decode cX10_nextDistances 104 = .ok (.iastore, 1) := by decide +kernel
theorem dX10_nextDistances_105 : decode cX10_nextDistances 105 = .ok (.iload 6, 2) := by decide +kernel
theorem dX10_nextDistances_107 : decode cX10_nextDistances 107 = .ok (.istore_n 3, 1) := by decide +kernel
theorem dX10_nextDistances_108 : decode cX10_nextDistances 108 = .ok (.iinc 5 1, 3) := by decide +kernel
theorem dX10_nextDistances_111 : decode cX10_nextDistances 111 = .ok (.goto (-94), 3) := by decide +kernel
theorem dX10_nextDistances_114 : decode cX10_nextDistances 114 = .ok (.return_, 1) := by decide +kernel
theorem vc_X10_nextDistances_0 {G : zG} {d : Nat} {Q : Option zV → zHp → Prop} (p1 : Int) (p2 : Int) (h : zHp) (hS : zSh h) (hd : 1 ≤ d) (I_17 : Int → Int → Int → Int → Int → zHp → Prop) (hI_17 : ∀ (y1 : Int) (y2 : Int) (y3 : Int) (y4 : Int) (y5 : Int) (h' : zHp), I_17 y1 y2 y3 y4 y5 h' → wpN G d M_X10_nextDistances 17 [(0, vR 1), (1, vI y1), (2, vI y2), (3, vI y3), (4, vI y4), (5, vI y5)] [] h' Q) 
    (hv : ((-2147483648 ≤ p1 - 1 ∧ p1 - 1 ≤ 2147483647) ∧ (∀ x1 : Int, x1 = (p1 - 1) → (∀ h3 : zHp, h3 = sI h 342 0 p1 → (zSh h3 → I_17 p1 p2 x1 p1 1 h3))))) : wpN G d M_X10_nextDistances 0 [(0, vR 1), (1, vI p1), (2, vI p2)] [] h Q := by
  refine wq_iload_n 1 rfl rfl dX10_nextDistances_0 ?_
  refine wq_iconst (z := 1) (zlit rfl) dX10_nextDistances_1 ?_
  refine wq_isub hv.1 dX10_nextDistances_2 ?_
  refine wq_topI (fun x1 e2 => ?_)
  refine wq_istore_n (ls' := [(0, vR 1), (1, vI p1), (2, vI p2), (3, vI x1)]) rfl (by decide) rfl dX10_nextDistances_3 ?_
  refine wq_iload_n 1 rfl rfl dX10_nextDistances_4 ?_
  refine wq_istore (ls' := [(0, vR 1), (1, vI p1), (2, vI p2), (3, vI x1), (4, vI p1)]) (by decide) rfl dX10_nextDistances_5 ?_
  refine wq_aload_n 0 rfl rfl dX10_nextDistances_7 ?_
  refine wq_getR fk_X10_79 tT_1 (fun _ _ _ => rfl) (sh_10_9 hS) (by decide) dX10_nextDistances_8 ?_
  refine wq_iconst (z := 0) (zlit rfl) dX10_nextDistances_11 ?_
  refine wq_iload_n 1 rfl rfl dX10_nextDistances_12 ?_
  refine wq_iast tT_342 (by decide) (by decide) dX10_nextDistances_13 ?_
  refine wq_toph (fun h3 e4 => ?_)
  have sh3 : zSh h3 := zSh_of e4 hS
  refine wq_iconst (z := 1) (zlit rfl) dX10_nextDistances_14 ?_
  refine wq_istore (ls' := [(0, vR 1), (1, vI p1), (2, vI p2), (3, vI x1), (4, vI p1), (5, vI 1)]) (by decide) rfl dX10_nextDistances_15 ?_
  exact wq_pick [0, 1, 2, 3, 4, 5] rfl (hI_17 p1 p2 x1 p1 1 h3 (((hv.2 x1 e2) h3 e4) sh3))
theorem vc_X10_nextDistances_17 {G : zG} {d : Nat} {Q : Option zV → zHp → Prop} (y1 : Int) (y2 : Int) (y3 : Int) (y4 : Int) (y5 : Int) (h : zHp) (hS : zSh h) (hd : 1 ≤ d) (I_17 : Int → Int → Int → Int → Int → zHp → Prop) (hI_17 : ∀ (y1 : Int) (y2 : Int) (y3 : Int) (y4 : Int) (y5 : Int) (h' : zHp), I_17 y1 y2 y3 y4 y5 h' → wpN G d M_X10_nextDistances 17 [(0, vR 1), (1, vI y1), (2, vI y2), (3, vI y3), (4, vI y4), (5, vI y5)] [] h' Q) 
    (hv : ((y2 < y5 → Q none h) ∧ (y5 ≤ y2 → (((0 : Int) ≤ y5 ∧ y5 < ((201 : Nat) : Int)) ∧ (∀ x2 : Int, x2 = (gI h 342 y5.toNat) → ((-2147483648 ≤ y1 - 1 ∧ y1 - 1 ≤ 2147483647) ∧ (wpN G (d - 1) M_X0_get 0 (zar 0 [vR 6, vI (y1 - 1)]) [] h (qI (fun z4 h5 => zSh h5 ∧ ((-2147483648 ≤ y5 - 1 ∧ y5 - 1 ≤ 2147483647) ∧ (wpN G (d - 1) M_X0_get 0 (zar 0 [vR 9, vI (y5 - 1)]) [] h5 (qI (fun z8 h9 => zSh h9 ∧ ((z4 ≠ z8 → ((-2147483648 ≤ y3 + 1 ∧ y3 + 1 ≤ 2147483647) ∧ (∀ x14 : Int, x14 = (y3 + 1) → (wpN G (d - 1) M_J9_min_7cf53 0 (zar 0 [vI x2, vI y4]) [] h9 (qI (fun z16 h17 => zSh h17 ∧ ((-2147483648 ≤ z16 + 1 ∧ z16 + 1 ≤ 2147483647) ∧ (wpN G (d - 1) M_J9_min_7cf53 0 (zar 0 [vI x14, vI (z16 + 1)]) [] h17 (qI (fun z20 h21 => zSh h21 ∧ (((0 : Int) ≤ y5 ∧ y5 < ((201 : Nat) : Int)) ∧ (∀ h24 : zHp, h24 = sI h21 342 y5.toNat z20 → ((-2147483648 ≤ y5 + 1 ∧ y5 + 1 ≤ 2147483647) ∧ ∀ x26 : Int, x26 = y5 + 1 → (zSh h24 → I_17 y1 y2 x2 z20 x26 h24)))))))))))))) ∧ (z4 = z8 → (wpN G (d - 1) M_J9_min_7cf53 0 (zar 0 [vI x2, vI y4]) [] h9 (qI (fun z29 h30 => zSh h30 ∧ ((-2147483648 ≤ z29 + 1 ∧ z29 + 1 ≤ 2147483647) ∧ (wpN G (d - 1) M_J9_min_7cf53 0 (zar 0 [vI y3, vI (z29 + 1)]) [] h30 (qI (fun z33 h34 => zSh h34 ∧ (((0 : Int) ≤ y5 ∧ y5 < ((201 : Nat) : Int)) ∧ (∀ h37 : zHp, h37 = sI h34 342 y5.toNat z33 → ((-2147483648 ≤ y5 + 1 ∧ y5 + 1 ≤ 2147483647) ∧ ∀ x39 : Int, x39 = y5 + 1 → (zSh h37 → I_17 y1 y2 x2 z33 x39 h37)))))))))))))))))))))))))) : wpN G d M_X10_nextDistances 17 [(0, vR 1), (1, vI y1), (2, vI y2), (3, vI y3), (4, vI y4), (5, vI y5)] [] h Q := by
  refine wq_iload 5 rfl dX10_nextDistances_17 ?_
  refine wq_iload_n 2 rfl rfl dX10_nextDistances_19 ?_
  refine wq_icmp_gt 114 rfl dX10_nextDistances_20 (fun c1 => ?_) (fun c1 => ?_)
  · exact wp_vret rfl dX10_nextDistances_114 (hv.1 c1)
  · refine wq_aload_n 0 rfl rfl dX10_nextDistances_23 ?_
    refine wq_getR fk_X10_79 tT_1 (fun _ _ _ => rfl) (sh_10_9 hS) (by decide) dX10_nextDistances_24 ?_
    refine wq_iload 5 rfl dX10_nextDistances_27 ?_
    refine wq_iald tT_342 (hv.2 c1).1.1 (hv.2 c1).1.2 dX10_nextDistances_29 ?_
    refine wq_topI (fun x2 e3 => ?_)
    refine wq_istore (ls' := [(0, vR 1), (1, vI y1), (2, vI y2), (3, vI y3), (4, vI y4), (5, vI y5), (6, vI x2)]) (by decide) rfl dX10_nextDistances_30 ?_
    refine wq_aload_n 0 rfl rfl dX10_nextDistances_32 ?_
    refine wq_getR fk_X10_21 tT_1 (fun _ _ _ => rfl) (sh_10_2 hS) (by decide) dX10_nextDistances_33 ?_
    refine wq_iload_n 1 rfl rfl dX10_nextDistances_36 ?_
    refine wq_iconst (z := 1) (zlit rfl) dX10_nextDistances_37 ?_
    refine wq_isub ((hv.2 c1).2 x2 e3).1 dX10_nextDistances_38 ?_
    refine wN_V (As := [vI (y1 - 1)]) vm_X0_get lk_X10_119 tT_6 rfl rfl (Nat.le_of_ble_eq_true rfl) (Nat.le_of_ble_eq_true rfl) (d' := d - 1) (by omega) dX10_nextDistances_39 ((hv.2 c1).2 x2 e3).2 (fun v9 h5 q6 => ?_)
    obtain ⟨z4, rfl, hS7, q6⟩ := q6
    refine wq_st (st' := [vI z4]) rfl ?_
    refine wq_aload_n 0 rfl rfl dX10_nextDistances_42 ?_
    refine wq_getR fk_X10_27 tT_1 (fun _ _ _ => rfl) (sh_10_3 hS7) (by decide) dX10_nextDistances_43 ?_
    refine wq_getR (r := 9) fk_X10_69 tT_8 (fun _ _ _ => rfl) (sh_2_0 hS7 tT_8) (by decide) dX10_nextDistances_46 ?_
    refine wq_iload 5 rfl dX10_nextDistances_49 ?_
    refine wq_iconst (z := 1) (zlit rfl) dX10_nextDistances_51 ?_
    refine wq_isub q6.1 dX10_nextDistances_52 ?_
    refine wN_V (As := [vI (y5 - 1)]) vm_X0_get lk_X10_119 tT_9 rfl rfl (Nat.le_of_ble_eq_true rfl) (Nat.le_of_ble_eq_true rfl) (d' := d - 1) (by omega) dX10_nextDistances_53 q6.2 (fun v9 h9 q10 => ?_)
    obtain ⟨z8, rfl, hS11, q10⟩ := q10
    refine wq_st (st' := [vI z8, vI z4]) rfl ?_
    refine wq_icmp_ne 63 rfl dX10_nextDistances_56 (fun c12 => ?_) (fun c12 => ?_)
    · refine wq_iconst (z := 0) (zlit rfl) dX10_nextDistances_63 ?_
      refine wq_istore (ls' := [(0, vR 1), (1, vI y1), (2, vI y2), (3, vI y3), (4, vI y4), (5, vI y5), (6, vI x2), (7, vI 0)]) (by decide) rfl dX10_nextDistances_64 ?_
      refine wq_iload 7 rfl dX10_nextDistances_66 ?_
      refine wq_if_eq 75 rfl dX10_nextDistances_68 (fun _ => ?_) (fun c13 => absurd c13 (by decide))
      refine wq_iload_n 3 rfl rfl dX10_nextDistances_75 ?_
      refine wq_iconst (z := 1) (zlit rfl) dX10_nextDistances_76 ?_
      refine wq_iadd (q10.1 c12).1 dX10_nextDistances_77 ?_
      refine wq_topI (fun x14 e15 => ?_)
      refine wq_istore (ls' := [(0, vR 1), (1, vI y1), (2, vI y2), (3, vI y3), (4, vI y4), (5, vI y5), (6, vI x2), (7, vI 0), (8, vI x14)]) (by decide) rfl dX10_nextDistances_78 ?_
      refine wq_iload 8 rfl dX10_nextDistances_80 ?_
      refine wq_iload 6 rfl dX10_nextDistances_82 ?_
      refine wq_iload 4 rfl dX10_nextDistances_84 ?_
      refine wN_S (As := [vI x2, vI y4]) md_J9_min_7cf53 ms_J9_min_7cf53 lk_X10_140 rfl rfl (Nat.le_of_ble_eq_true rfl) (Nat.le_of_ble_eq_true rfl) (d' := d - 1) (by omega) dX10_nextDistances_86 ((q10.1 c12).2 x14 e15) (fun v9 h17 q18 => ?_)
      obtain ⟨z16, rfl, hS19, q18⟩ := q18
      refine wq_st (st' := [vI z16, vI x14]) rfl ?_
      refine wq_iconst (z := 1) (zlit rfl) dX10_nextDistances_89 ?_
      refine wq_iadd q18.1 dX10_nextDistances_90 ?_
      refine wN_S (As := [vI x14, vI (z16 + 1)]) md_J9_min_7cf53 ms_J9_min_7cf53 lk_X10_140 rfl rfl (Nat.le_of_ble_eq_true rfl) (Nat.le_of_ble_eq_true rfl) (d' := d - 1) (by omega) dX10_nextDistances_91 q18.2 (fun v9 h21 q22 => ?_)
      obtain ⟨z20, rfl, hS23, q22⟩ := q22
      refine wq_st (st' := [vI z20]) rfl ?_
      refine wq_istore (ls' := [(0, vR 1), (1, vI y1), (2, vI y2), (3, vI y3), (4, vI z20), (5, vI y5), (6, vI x2), (7, vI 0), (8, vI x14)]) (by decide) rfl dX10_nextDistances_94 ?_
      refine wq_aload_n 0 rfl rfl dX10_nextDistances_96 ?_
      refine wq_getR fk_X10_79 tT_1 (fun _ _ _ => rfl) (sh_10_9 hS23) (by decide) dX10_nextDistances_97 ?_
      refine wq_iload 5 rfl dX10_nextDistances_100 ?_
      refine wq_iload 4 rfl dX10_nextDistances_102 ?_
      refine wq_iast tT_342 q22.1.1 q22.1.2 dX10_nextDistances_104 ?_
      refine wq_toph (fun h24 e25 => ?_)
      have sh24 : zSh h24 := zSh_of e25 hS23
      refine wq_iload 6 rfl dX10_nextDistances_105 ?_
      refine wq_istore_n (ls' := [(0, vR 1), (1, vI y1), (2, vI y2), (3, vI x2), (4, vI z20), (5, vI y5), (6, vI x2), (7, vI 0), (8, vI x14)]) rfl (by decide) rfl dX10_nextDistances_107 ?_
      refine z_nm (y5 + 1) (fun x26 e27 => ?_)
      refine wq_iinc (y := x26) (ls' := [(0, vR 1), (1, vI y1), (2, vI y2), (3, vI x2), (4, vI z20), (5, vI x26), (6, vI x2), (7, vI 0), (8, vI x14)]) 5 rfl e27.symm (by rw [e27]; exact (q22.2 h24 e25).1) (by decide) rfl dX10_nextDistances_108 ?_
      refine wq_goto 17 rfl dX10_nextDistances_111 ?_
      exact wq_pick [0, 1, 2, 3, 4, 5] rfl (hI_17 y1 y2 x2 z20 x26 h24 (((q22.2 h24 e25).2 x26 e27) sh24))
    · refine wq_iconst (z := 1) (zlit rfl) dX10_nextDistances_59 ?_
      refine wq_goto 64 rfl dX10_nextDistances_60 ?_
      refine wq_istore (ls' := [(0, vR 1), (1, vI y1), (2, vI y2), (3, vI y3), (4, vI y4), (5, vI y5), (6, vI x2), (7, vI 1)]) (by decide) rfl dX10_nextDistances_64 ?_
      refine wq_iload 7 rfl dX10_nextDistances_66 ?_
      refine wq_if_eq 75 rfl dX10_nextDistances_68 (fun c28 => absurd c28 (by decide)) (fun _ => ?_)
      refine wq_iload_n 3 rfl rfl dX10_nextDistances_71 ?_
      refine wq_goto 78 rfl dX10_nextDistances_72 ?_
      refine wq_istore (ls' := [(0, vR 1), (1, vI y1), (2, vI y2), (3, vI y3), (4, vI y4), (5, vI y5), (6, vI x2), (7, vI 1), (8, vI y3)]) (by decide) rfl dX10_nextDistances_78 ?_
      refine wq_iload 8 rfl dX10_nextDistances_80 ?_
      refine wq_iload 6 rfl dX10_nextDistances_82 ?_
      refine wq_iload 4 rfl dX10_nextDistances_84 ?_
      refine wN_S (As := [vI x2, vI y4]) md_J9_min_7cf53 ms_J9_min_7cf53 lk_X10_140 rfl rfl (Nat.le_of_ble_eq_true rfl) (Nat.le_of_ble_eq_true rfl) (d' := d - 1) (by omega) dX10_nextDistances_86 (q10.2 c12) (fun v9 h30 q31 => ?_)
      obtain ⟨z29, rfl, hS32, q31⟩ := q31
      refine wq_st (st' := [vI z29, vI y3]) rfl ?_
      refine wq_iconst (z := 1) (zlit rfl) dX10_nextDistances_89 ?_
      refine wq_iadd q31.1 dX10_nextDistances_90 ?_
      refine wN_S (As := [vI y3, vI (z29 + 1)]) md_J9_min_7cf53 ms_J9_min_7cf53 lk_X10_140 rfl rfl (Nat.le_of_ble_eq_true rfl) (Nat.le_of_ble_eq_true rfl) (d' := d - 1) (by omega) dX10_nextDistances_91 q31.2 (fun v9 h34 q35 => ?_)
      obtain ⟨z33, rfl, hS36, q35⟩ := q35
      refine wq_st (st' := [vI z33]) rfl ?_
      refine wq_istore (ls' := [(0, vR 1), (1, vI y1), (2, vI y2), (3, vI y3), (4, vI z33), (5, vI y5), (6, vI x2), (7, vI 1), (8, vI y3)]) (by decide) rfl dX10_nextDistances_94 ?_
      refine wq_aload_n 0 rfl rfl dX10_nextDistances_96 ?_
      refine wq_getR fk_X10_79 tT_1 (fun _ _ _ => rfl) (sh_10_9 hS36) (by decide) dX10_nextDistances_97 ?_
      refine wq_iload 5 rfl dX10_nextDistances_100 ?_
      refine wq_iload 4 rfl dX10_nextDistances_102 ?_
      refine wq_iast tT_342 q35.1.1 q35.1.2 dX10_nextDistances_104 ?_
      refine wq_toph (fun h37 e38 => ?_)
      have sh37 : zSh h37 := zSh_of e38 hS36
      refine wq_iload 6 rfl dX10_nextDistances_105 ?_
      refine wq_istore_n (ls' := [(0, vR 1), (1, vI y1), (2, vI y2), (3, vI x2), (4, vI z33), (5, vI y5), (6, vI x2), (7, vI 1), (8, vI y3)]) rfl (by decide) rfl dX10_nextDistances_107 ?_
      refine z_nm (y5 + 1) (fun x39 e40 => ?_)
      refine wq_iinc (y := x39) (ls' := [(0, vR 1), (1, vI y1), (2, vI y2), (3, vI x2), (4, vI z33), (5, vI x39), (6, vI x2), (7, vI 1), (8, vI y3)]) 5 rfl e40.symm (by rw [e40]; exact (q35.2 h37 e38).1) (by decide) rfl dX10_nextDistances_108 ?_
      refine wq_goto 17 rfl dX10_nextDistances_111 ?_
      exact wq_pick [0, 1, 2, 3, 4, 5] rfl (hI_17 y1 y2 x2 z33 x39 h37 (((q35.2 h37 e38).2 x39 e40) sh37))
theorem dX10_mix_0 : decode cX10_mix 0 = .ok (.ldc2_w 300, 3) := by decide +kernel
theorem dX10_mix_3 : decode cX10_mix 3 = .ok (.lload_n 0, 1) := by decide +kernel
theorem dX10_mix_4 : decode cX10_mix 4 = .ok (.lmul, 1) := by decide +kernel
theorem dX10_mix_5 : decode cX10_mix 5 = .ok (.lload_n 2, 1) := by decide +kernel
theorem dX10_mix_6 : decode cX10_mix 6 = .ok (.ladd, 1) := by decide +kernel
theorem dX10_mix_7 : decode cX10_mix 7 = .ok (.lreturn, 1) := by decide +kernel
theorem vc_X10_mix_0 {G : zG} {d : Nat} {Q : Option zV → zHp → Prop} (p1 : Int) (p2 : Int) (h : zHp) (hS : zSh h) (hd : 0 ≤ d)  
    (hv : Q (some (vL (w64 ((w64 (31 * p1)) + p2)))) h) : wpN G d M_X10_mix 0 [(0, vL p1), (2, vL p2)] [] h Q := by
  refine wq_ldc2_w (z := 31) (zlitL rfl) kc_X10_300 dX10_mix_0 ?_
  refine wq_lload_n 0 rfl rfl dX10_mix_3 ?_
  refine wq_lmul_w dX10_mix_4 ?_
  refine wq_lload_n 1 rfl rfl dX10_mix_5 ?_
  refine wq_ladd_w dX10_mix_6 ?_
  exact wp_lret rfl dX10_mix_7 hv
theorem dX10_mixOverlay_0 : decode cX10_mixOverlay 0 = .ok (.lload_n 1, 1) := by decide +kernel
theorem dX10_mixOverlay_1 : decode cX10_mixOverlay 1 = .ok (.lstore 4, 2) := by decide +kernel
theorem dX10_mixOverlay_3 : decode cX10_mixOverlay 3 = .ok (.iconst 0, 1) := by decide +kernel
theorem dX10_mixOverlay_4 : decode cX10_mixOverlay 4 = .ok (.istore 6, 2) := by decide +kernel
theorem dX10_mixOverlay_6 : decode cX10_mixOverlay 6 = .ok (.iload 6, 2) := by decide +kernel
theorem dX10_mixOverlay_8 : decode cX10_mixOverlay 8 = .ok (.iconst 5, 1) := by decide +kernel
theorem dX10_mixOverlay_9 : decode cX10_mixOverlay 9 = .ok (.if_icmp .gt 24, 3) := by decide +kernel
theorem dX10_mixOverlay_12 : decode cX10_mixOverlay 12 = .ok (.lload 4, 2) := by decide +kernel
theorem dX10_mixOverlay_14 : decode cX10_mixOverlay 14 = .ok (.aload_n 0, 1) := by decide +kernel
theorem dX10_mixOverlay_15 : decode cX10_mixOverlay 15 = .ok (.iload_n 3, 1) := by decide +kernel
theorem dX10_mixOverlay_16 : decode cX10_mixOverlay 16 = .ok (.iload 6, 2) := by decide +kernel
theorem dX10_mixOverlay_18 : decode cX10_mixOverlay 18 = .ok (.invokevirtual 172, 3) := by decide +kernel
theorem dX10_mixOverlay_21 : decode cX10_mixOverlay 21 = .ok (.i2l, 1) := by decide +kernel
theorem dX10_mixOverlay_22 : decode cX10_mixOverlay 22 = .ok (.invokestatic 259, 3) := by decide +kernel
theorem dX10_mixOverlay_25 : decode cX10_mixOverlay 25 = .ok (.lstore 4, 2) := by decide +kernel
theorem dX10_mixOverlay_27 : decode cX10_mixOverlay 27 = .ok (.iinc 6 1, 3) := by decide +kernel
theorem dX10_mixOverlay_30 : decode cX10_mixOverlay 30 = .ok (.goto (-24), 3) := by decide +kernel
theorem dX10_mixOverlay_33 : decode cX10_mixOverlay 33 = .ok (.iconst 0, 1) := by decide +kernel
theorem dX10_mixOverlay_34 : decode cX10_mixOverlay 34 = .ok (.istore 6, 2) := by decide +kernel
theorem dX10_mixOverlay_36 : decode cX10_mixOverlay 36 = .ok (.iload 6, 2) := by decide +kernel
theorem dX10_mixOverlay_38 : decode cX10_mixOverlay 38 = .ok (.aload_n 0, 1) := by decide +kernel
theorem dX10_mixOverlay_39 : decode cX10_mixOverlay 39 = .ok (.getfield 75, 3) := by decide +kernel
theorem dX10_mixOverlay_42 : decode cX10_mixOverlay 42 = .ok (.getfield 199, 3) := by decide +kernel
theorem dX10_mixOverlay_45 : decode cX10_mixOverlay 45 = .ok (.if_icmp .ge 27, 3) := by decide +kernel
theorem dX10_mixOverlay_48 : decode cX10_mixOverlay 48 = .ok (.aload_n 0, 1) := by decide +kernel
theorem dX10_mixOverlay_49 : decode cX10_mixOverlay 49 = .ok (.lload 4, 2) := by decide +kernel
theorem dX10_mixOverlay_51 : decode cX10_mixOverlay 51 = .ok (.aload_n 0, 1) := by decide +kernel
theorem dX10_mixOverlay_52 : decode cX10_mixOverlay 52 = .ok (.getfield 75, 3) := by decide +kernel
theorem dX10_mixOverlay_55 : decode cX10_mixOverlay 55 = .ok (.getfield 179, 3) := by decide +kernel
theorem dX10_mixOverlay_58 : decode cX10_mixOverlay 58 = .ok (.iload 6, 2) := by decide +kernel
theorem dX10_mixOverlay_60 : decode cX10_mixOverlay 60 = .ok (.aaload, 1) := by decide +kernel
theorem dX10_mixOverlay_61 : decode cX10_mixOverlay 61 = .ok (.invokevirtual 302, 3) := by decide +kernel
theorem dX10_mixOverlay_64 : decode cX10_mixOverlay 64 = .ok (.lstore 4, 2) := by decide +kernel
theorem dX10_mixOverlay_66 : decode cX10_mixOverlay 66 = .ok (.iinc 6 1, 3) := by decide +kernel
theorem dX10_mixOverlay_69 : decode cX10_mixOverlay 69 = .ok (.goto (-33), 3) := by decide +kernel
theorem dX10_mixOverlay_72 : decode cX10_mixOverlay 72 = .ok (.lload 4, 2) := by decide +kernel
theorem dX10_mixOverlay_74 : decode cX10_mixOverlay 74 = .ok (.lreturn, 1) := by decide +kernel
theorem vc_X10_mixOverlay_0 {G : zG} {d : Nat} {Q : Option zV → zHp → Prop} (p1 : Int) (p2 : Int) (h : zHp) (hS : zSh h) (hd : 5 ≤ d) (I_6 : Int → Int → Int → Int → zHp → Prop) (hI_6 : ∀ (y1 : Int) (y3 : Int) (y4 : Int) (y6 : Int) (h' : zHp), I_6 y1 y3 y4 y6 h' → wpN G d M_X10_mixOverlay 6 [(0, vR 1), (1, vL y1), (3, vI y3), (4, vL y4), (6, vI y6)] [] h' Q) 
    (hv : (zSh h → I_6 p1 p2 p1 0 h)) : wpN G d M_X10_mixOverlay 0 [(0, vR 1), (1, vL p1), (3, vI p2)] [] h Q := by
  refine wq_lload_n 1 rfl rfl dX10_mixOverlay_0 ?_
  refine wq_lstore (ls' := [(0, vR 1), (1, vL p1), (3, vI p2), (4, vL p1)]) (by decide) rfl dX10_mixOverlay_1 ?_
  refine wq_iconst (z := 0) (zlit rfl) dX10_mixOverlay_3 ?_
  refine wq_istore (ls' := [(0, vR 1), (1, vL p1), (3, vI p2), (4, vL p1), (6, vI 0)]) (by decide) rfl dX10_mixOverlay_4 ?_
  exact wq_pick [0, 1, 2, 3, 4] rfl (hI_6 p1 p2 p1 0 h (hv hS))
theorem vc_X10_mixOverlay_6 {G : zG} {d : Nat} {Q : Option zV → zHp → Prop} (y1 : Int) (y3 : Int) (y4 : Int) (y6 : Int) (h : zHp) (hS : zSh h) (hd : 5 ≤ d) (I_6 : Int → Int → Int → Int → zHp → Prop) (hI_6 : ∀ (y1 : Int) (y3 : Int) (y4 : Int) (y6 : Int) (h' : zHp), I_6 y1 y3 y4 y6 h' → wpN G d M_X10_mixOverlay 6 [(0, vR 1), (1, vL y1), (3, vI y3), (4, vL y4), (6, vI y6)] [] h' Q) (I_36 : Int → Int → Int → Int → zHp → Prop) (hI_36 : ∀ (y1 : Int) (y3 : Int) (y4 : Int) (y6 : Int) (h' : zHp), I_36 y1 y3 y4 y6 h' → wpN G d M_X10_mixOverlay 36 [(0, vR 1), (1, vL y1), (3, vI y3), (4, vL y4), (6, vI y6)] [] h' Q) 
    (hv : ((5 < y6 → (zSh h → I_36 y1 y3 y4 0 h)) ∧ (y6 ≤ 5 → (wpN G (d - 1) M_X10_overlayProperty 0 (zar 0 [vR 1, vI y3, vI y6]) [] h (qI (fun z2 h3 => zSh h3 ∧ (wpN G (d - 1) M_X10_mix 0 (zar 0 [vL y4, vL z2]) [] h3 (qL (fun z6 h7 => zSh h7 ∧ ((-2147483648 ≤ y6 + 1 ∧ y6 + 1 ≤ 2147483647) ∧ ∀ x10 : Int, x10 = y6 + 1 → (zSh h7 → I_6 y1 y3 z6 x10 h7))))))))))) : wpN G d M_X10_mixOverlay 6 [(0, vR 1), (1, vL y1), (3, vI y3), (4, vL y4), (6, vI y6)] [] h Q := by
  refine wq_iload 4 rfl dX10_mixOverlay_6 ?_
  refine wq_iconst (z := 5) (zlit rfl) dX10_mixOverlay_8 ?_
  refine wq_icmp_gt 33 rfl dX10_mixOverlay_9 (fun c1 => ?_) (fun c1 => ?_)
  · refine wq_iconst (z := 0) (zlit rfl) dX10_mixOverlay_33 ?_
    refine wq_istore (ls' := [(0, vR 1), (1, vL y1), (3, vI y3), (4, vL y4), (6, vI 0)]) (by decide) rfl dX10_mixOverlay_34 ?_
    exact wq_pick [0, 1, 2, 3, 4] rfl (hI_36 y1 y3 y4 0 h ((hv.1 c1) hS))
  · refine wq_lload 3 rfl dX10_mixOverlay_12 ?_
    refine wq_aload_n 0 rfl rfl dX10_mixOverlay_14 ?_
    refine wq_iload_n 2 rfl rfl dX10_mixOverlay_15 ?_
    refine wq_iload 4 rfl dX10_mixOverlay_16 ?_
    refine wN_V (As := [vI y3, vI y6]) vm_X10_overlayProperty lk_X10_172 tT_1 rfl rfl (Nat.le_of_ble_eq_true rfl) (Nat.le_of_ble_eq_true rfl) (d' := d - 1) (by omega) dX10_mixOverlay_18 (hv.2 c1) (fun v9 h3 q4 => ?_)
    obtain ⟨z2, rfl, hS5, q4⟩ := q4
    refine wq_st (st' := [vI z2, vL y4]) rfl ?_
    refine wq_i2l dX10_mixOverlay_21 ?_
    refine wN_S (As := [vL y4, vL z2]) md_X10_mix ms_X10_mix lk_X10_259 rfl rfl (Nat.le_of_ble_eq_true rfl) (Nat.le_of_ble_eq_true rfl) (d' := d - 1) (by omega) dX10_mixOverlay_22 q4 (fun v9 h7 q8 => ?_)
    obtain ⟨z6, rfl, hS9, q8⟩ := q8
    refine wq_st (st' := [vL z6]) rfl ?_
    refine wq_lstore (ls' := [(0, vR 1), (1, vL y1), (3, vI y3), (4, vL z6), (6, vI y6)]) (by decide) rfl dX10_mixOverlay_25 ?_
    refine z_nm (y6 + 1) (fun x10 e11 => ?_)
    refine wq_iinc (y := x10) (ls' := [(0, vR 1), (1, vL y1), (3, vI y3), (4, vL z6), (6, vI x10)]) 4 rfl e11.symm (by rw [e11]; exact q8.1) (by decide) rfl dX10_mixOverlay_27 ?_
    refine wq_goto 6 rfl dX10_mixOverlay_30 ?_
    exact wq_pick [0, 1, 2, 3, 4] rfl (hI_6 y1 y3 z6 x10 h7 ((q8.2 x10 e11) hS9))
theorem vc_X10_mixOverlay_36 {G : zG} {d : Nat} {Q : Option zV → zHp → Prop} (y1 : Int) (y3 : Int) (y4 : Int) (y6 : Int) (h : zHp) (hS : zSh h) (hd : 5 ≤ d) (I_36 : Int → Int → Int → Int → zHp → Prop) (hI_36 : ∀ (y1 : Int) (y3 : Int) (y4 : Int) (y6 : Int) (h' : zHp), I_36 y1 y3 y4 y6 h' → wpN G d M_X10_mixOverlay 36 [(0, vR 1), (1, vL y1), (3, vI y3), (4, vL y4), (6, vI y6)] [] h' Q) 
    (hv : (((gI h 215 1) ≤ y6 → Q (some (vL y4)) h) ∧ (y6 < (gI h 215 1) → (((0 : Int) ≤ y6 ∧ y6 < ((60 : Nat) : Int)) ∧ (wpN G (d - 1) M_X10_mixField 0 (zar 0 [vR 1, vL y4, vR (217 + 2 * y6.toNat)]) [] h (qL (fun z2 h3 => zSh h3 ∧ ((-2147483648 ≤ y6 + 1 ∧ y6 + 1 ≤ 2147483647) ∧ ∀ x6 : Int, x6 = y6 + 1 → (zSh h3 → I_36 y1 y3 z2 x6 h3))))))))) : wpN G d M_X10_mixOverlay 36 [(0, vR 1), (1, vL y1), (3, vI y3), (4, vL y4), (6, vI y6)] [] h Q := by
  refine wq_iload 4 rfl dX10_mixOverlay_36 ?_
  refine wq_aload_n 0 rfl rfl dX10_mixOverlay_38 ?_
  refine wq_getR fk_X10_75 tT_1 (fun _ _ _ => rfl) (sh_10_8 hS) (by decide) dX10_mixOverlay_39 ?_
  refine wq_getI fk_X10_199 tT_215 (fun _ _ _ => rfl) dX10_mixOverlay_42 ?_
  refine wq_icmp_ge 72 rfl dX10_mixOverlay_45 (fun c1 => ?_) (fun c1 => ?_)
  · refine wq_lload 3 rfl dX10_mixOverlay_72 ?_
    exact wp_lret rfl dX10_mixOverlay_74 (hv.1 c1)
  · refine wq_aload_n 0 rfl rfl dX10_mixOverlay_48 ?_
    refine wq_lload 3 rfl dX10_mixOverlay_49 ?_
    refine wq_aload_n 0 rfl rfl dX10_mixOverlay_51 ?_
    refine wq_getR fk_X10_75 tT_1 (fun _ _ _ => rfl) (sh_10_8 hS) (by decide) dX10_mixOverlay_52 ?_
    refine wq_getR fk_X10_179 tT_215 (fun _ _ _ => rfl) (sh_6_0 hS) (by decide) dX10_mixOverlay_55 ?_
    refine wq_iload 4 rfl dX10_mixOverlay_58 ?_
    refine wq_aald (r := (217 + 2 * y6.toNat)) tT_216 (by decide) (by decide) rfl (hv.2 c1).1.1 (hv.2 c1).1.2 (sh_fds hS (zlt_n (hv.2 c1).1.1 (hv.2 c1).1.2)) (by omega) dX10_mixOverlay_60 ?_
    refine wN_V (As := [vL y4, vR (217 + 2 * y6.toNat)]) vm_X10_mixField lk_X10_302 tT_1 rfl rfl (Nat.le_of_ble_eq_true rfl) (Nat.le_of_ble_eq_true rfl) (d' := d - 1) (by omega) dX10_mixOverlay_61 (hv.2 c1).2 (fun v9 h3 q4 => ?_)
    obtain ⟨z2, rfl, hS5, q4⟩ := q4
    refine wq_st (st' := [vL z2]) rfl ?_
    refine wq_lstore (ls' := [(0, vR 1), (1, vL y1), (3, vI y3), (4, vL z2), (6, vI y6)]) (by decide) rfl dX10_mixOverlay_64 ?_
    refine z_nm (y6 + 1) (fun x6 e7 => ?_)
    refine wq_iinc (y := x6) (ls' := [(0, vR 1), (1, vL y1), (3, vI y3), (4, vL z2), (6, vI x6)]) 4 rfl e7.symm (by rw [e7]; exact q4.1) (by decide) rfl dX10_mixOverlay_66 ?_
    refine wq_goto 36 rfl dX10_mixOverlay_69 ?_
    exact wq_pick [0, 1, 2, 3, 4] rfl (hI_36 y1 y3 z2 x6 h3 ((q4.2 x6 e7) hS5))
theorem dX10_mixField_0 : decode cX10_mixField 0 = .ok (.lload_n 1, 1) := by decide +kernel
theorem dX10_mixField_1 : decode cX10_mixField 1 = .ok (.lstore 4, 2) := by decide +kernel
theorem dX10_mixField_3 : decode cX10_mixField 3 = .ok (.iconst 0, 1) := by decide +kernel
theorem dX10_mixField_4 : decode cX10_mixField 4 = .ok (.istore 6, 2) := by decide +kernel
theorem dX10_mixField_6 : decode cX10_mixField 6 = .ok (.iload 6, 2) := by decide +kernel
theorem dX10_mixField_8 : decode cX10_mixField 8 = .ok (.bipush 6, 2) := by decide +kernel
theorem dX10_mixField_10 : decode cX10_mixField 10 = .ok (.if_icmp .gt 23, 3) := by decide +kernel
theorem dX10_mixField_13 : decode cX10_mixField 13 = .ok (.lload 4, 2) := by decide +kernel
theorem dX10_mixField_15 : decode cX10_mixField 15 = .ok (.aload_n 3, 1) := by decide +kernel
theorem dX10_mixField_16 : decode cX10_mixField 16 = .ok (.iload 6, 2) := by decide +kernel
theorem dX10_mixField_18 : decode cX10_mixField 18 = .ok (.invokevirtual 183, 3) := by decide +kernel
theorem dX10_mixField_21 : decode cX10_mixField 21 = .ok (.i2l, 1) := by decide +kernel
theorem dX10_mixField_22 : decode cX10_mixField 22 = .ok (.invokestatic 259, 3) := by decide +kernel
theorem dX10_mixField_25 : decode cX10_mixField 25 = .ok (.lstore 4, 2) := by decide +kernel
theorem dX10_mixField_27 : decode cX10_mixField 27 = .ok (.iinc 6 1, 3) := by decide +kernel
theorem dX10_mixField_30 : decode cX10_mixField 30 = .ok (.goto (-24), 3) := by decide +kernel
theorem dX10_mixField_33 : decode cX10_mixField 33 = .ok (.lload 4, 2) := by decide +kernel
theorem dX10_mixField_35 : decode cX10_mixField 35 = .ok (.aload_n 0, 1) := by decide +kernel
theorem dX10_mixField_36 : decode cX10_mixField 36 = .ok (.getfield 27, 3) := by decide +kernel
theorem dX10_mixField_39 : decode cX10_mixField 39 = .ok (.getfield 69, 3) := by decide +kernel
theorem dX10_mixField_42 : decode cX10_mixField 42 = .ok (.aload_n 3, 1) := by decide +kernel
theorem dX10_mixField_43 : decode cX10_mixField 43 = .ok (.invokevirtual 188, 3) := by decide +kernel
theorem dX10_mixField_46 : decode cX10_mixField 46 = .ok (.invokestatic 259, 3) := by decide +kernel
theorem dX10_mixField_49 : decode cX10_mixField 49 = .ok (.lstore 4, 2) := by decide +kernel
theorem dX10_mixField_51 : decode cX10_mixField 51 = .ok (.iconst 0, 1) := by decide +kernel
theorem dX10_mixField_52 : decode cX10_mixField 52 = .ok (.istore 6, 2) := by decide +kernel
theorem dX10_mixField_54 : decode cX10_mixField 54 = .ok (.iload 6, 2) := by decide +kernel
theorem dX10_mixField_56 : decode cX10_mixField 56 = .ok (.aload_n 3, 1) := by decide +kernel
theorem dX10_mixField_57 : decode cX10_mixField 57 = .ok (.getfield 306, 3) := by decide +kernel
theorem dX10_mixField_60 : decode cX10_mixField 60 = .ok (.if_icmp .ge 23, 3) := by decide +kernel
theorem dX10_mixField_63 : decode cX10_mixField 63 = .ok (.lload 4, 2) := by decide +kernel
theorem dX10_mixField_65 : decode cX10_mixField 65 = .ok (.aload_n 3, 1) := by decide +kernel
theorem dX10_mixField_66 : decode cX10_mixField 66 = .ok (.iload 6, 2) := by decide +kernel
theorem dX10_mixField_68 : decode cX10_mixField 68 = .ok (.invokevirtual 196, 3) := by decide +kernel
theorem dX10_mixField_71 : decode cX10_mixField 71 = .ok (.i2l, 1) := by decide +kernel
theorem dX10_mixField_72 : decode cX10_mixField 72 = .ok (.invokestatic 259, 3) := by decide +kernel
theorem dX10_mixField_75 : decode cX10_mixField 75 = .ok (.lstore 4, 2) := by decide +kernel
theorem dX10_mixField_77 : decode cX10_mixField 77 = .ok (.iinc 6 1, 3) := by decide +kernel
theorem dX10_mixField_80 : decode cX10_mixField 80 = .ok (.goto (-26), 3) := by decide +kernel
theorem dX10_mixField_83 : decode cX10_mixField 83 = .ok (.lload 4, 2) := by decide +kernel
theorem dX10_mixField_85 : decode cX10_mixField 85 = .ok (.lreturn, 1) := by decide +kernel
theorem vc_X10_mixField_0 {G : zG} {d : Nat} {Q : Option zV → zHp → Prop} (p1 : Int) (p2 : Nat) (hT_p2 : zT 369 p2 = (103, 8)) (h : zHp) (hS : zSh h) (hd : 1 ≤ d) (I_6 : Int → Nat → Int → Int → zHp → Prop) (hI_6 : ∀ (y1 : Int) (y3 : Nat) (y4 : Int) (y6 : Int) (h' : zHp), I_6 y1 y3 y4 y6 h' → wpN G d M_X10_mixField 6 [(0, vR 1), (1, vL y1), (3, vR y3), (4, vL y4), (6, vI y6)] [] h' Q) 
    (hv : (zSh h → I_6 p1 p2 p1 0 h)) : wpN G d M_X10_mixField 0 [(0, vR 1), (1, vL p1), (3, vR p2)] [] h Q := by
  refine wq_lload_n 1 rfl rfl dX10_mixField_0 ?_
  refine wq_lstore (ls' := [(0, vR 1), (1, vL p1), (3, vR p2), (4, vL p1)]) (by decide) rfl dX10_mixField_1 ?_
  refine wq_iconst (z := 0) (zlit rfl) dX10_mixField_3 ?_
  refine wq_istore (ls' := [(0, vR 1), (1, vL p1), (3, vR p2), (4, vL p1), (6, vI 0)]) (by decide) rfl dX10_mixField_4 ?_
  exact wq_pick [0, 1, 2, 3, 4] rfl (hI_6 p1 p2 p1 0 h (hv hS))
theorem vc_X10_mixField_6 {G : zG} {d : Nat} {Q : Option zV → zHp → Prop} (y1 : Int) (y3 : Nat) (hT_y3 : zT 369 y3 = (103, 8)) (y4 : Int) (y6 : Int) (h : zHp) (hS : zSh h) (hd : 1 ≤ d) (I_6 : Int → Nat → Int → Int → zHp → Prop) (hI_6 : ∀ (y1 : Int) (y3 : Nat) (y4 : Int) (y6 : Int) (h' : zHp), I_6 y1 y3 y4 y6 h' → wpN G d M_X10_mixField 6 [(0, vR 1), (1, vL y1), (3, vR y3), (4, vL y4), (6, vI y6)] [] h' Q) (I_54 : Int → Nat → Int → Int → zHp → Prop) (hI_54 : ∀ (y1 : Int) (y3 : Nat) (y4 : Int) (y6 : Int) (h' : zHp), I_54 y1 y3 y4 y6 h' → wpN G d M_X10_mixField 54 [(0, vR 1), (1, vL y1), (3, vR y3), (4, vL y4), (6, vI y6)] [] h' Q) 
    (hv : ((6 < y6 → (wpN G (d - 1) M_X0_read 0 (zar 0 [vR 9, vR y3]) [] h (qL (fun z2 h3 => zSh h3 ∧ (wpN G (d - 1) M_X10_mix 0 (zar 0 [vL y4, vL z2]) [] h3 (qL (fun z6 h7 => zSh h7 ∧ (zSh h7 → I_54 y1 y3 z6 0 h7)))))))) ∧ (y6 ≤ 6 → (wpN G (d - 1) M_X3_property 0 (zar 0 [vR y3, vI y6]) [] h (qI (fun z10 h11 => zSh h11 ∧ (wpN G (d - 1) M_X10_mix 0 (zar 0 [vL y4, vL z10]) [] h11 (qL (fun z14 h15 => zSh h15 ∧ ((-2147483648 ≤ y6 + 1 ∧ y6 + 1 ≤ 2147483647) ∧ ∀ x18 : Int, x18 = y6 + 1 → (zSh h15 → I_6 y1 y3 z14 x18 h15))))))))))) : wpN G d M_X10_mixField 6 [(0, vR 1), (1, vL y1), (3, vR y3), (4, vL y4), (6, vI y6)] [] h Q := by
  refine wq_iload 4 rfl dX10_mixField_6 ?_
  refine wq_bipush (z := 6) (zlit rfl) rfl dX10_mixField_8 ?_
  refine wq_icmp_gt 33 rfl dX10_mixField_10 (fun c1 => ?_) (fun c1 => ?_)
  · refine wq_lload 3 rfl dX10_mixField_33 ?_
    refine wq_aload_n 0 rfl rfl dX10_mixField_35 ?_
    refine wq_getR fk_X10_27 tT_1 (fun _ _ _ => rfl) (sh_10_3 hS) (by decide) dX10_mixField_36 ?_
    refine wq_getR (r := 9) fk_X10_69 tT_8 (fun _ _ _ => rfl) (sh_2_0 hS tT_8) (by decide) dX10_mixField_39 ?_
    refine wq_aload_n 2 rfl rfl dX10_mixField_42 ?_
    refine wN_V (As := [vR y3]) vm_X0_read lk_X10_188 tT_9 rfl rfl (Nat.le_of_ble_eq_true rfl) (Nat.le_of_ble_eq_true rfl) (d' := d - 1) (by omega) dX10_mixField_43 (hv.1 c1) (fun v9 h3 q4 => ?_)
    obtain ⟨z2, rfl, hS5, q4⟩ := q4
    refine wq_st (st' := [vL z2, vL y4]) rfl ?_
    refine wN_S (As := [vL y4, vL z2]) md_X10_mix ms_X10_mix lk_X10_259 rfl rfl (Nat.le_of_ble_eq_true rfl) (Nat.le_of_ble_eq_true rfl) (d' := d - 1) (by omega) dX10_mixField_46 q4 (fun v9 h7 q8 => ?_)
    obtain ⟨z6, rfl, hS9, q8⟩ := q8
    refine wq_st (st' := [vL z6]) rfl ?_
    refine wq_lstore (ls' := [(0, vR 1), (1, vL y1), (3, vR y3), (4, vL z6), (6, vI y6)]) (by decide) rfl dX10_mixField_49 ?_
    refine wq_iconst (z := 0) (zlit rfl) dX10_mixField_51 ?_
    refine wq_istore (ls' := [(0, vR 1), (1, vL y1), (3, vR y3), (4, vL z6), (6, vI 0)]) (by decide) rfl dX10_mixField_52 ?_
    exact wq_pick [0, 1, 2, 3, 4] rfl (hI_54 y1 y3 z6 0 h7 (q8 hS9))
  · refine wq_lload 3 rfl dX10_mixField_13 ?_
    refine wq_aload_n 2 rfl rfl dX10_mixField_15 ?_
    refine wq_iload 4 rfl dX10_mixField_16 ?_
    refine wN_V (As := [vI y6]) vm_X3_property lk_X10_183 hT_y3 rfl rfl (Nat.le_of_ble_eq_true rfl) (Nat.le_of_ble_eq_true rfl) (d' := d - 1) (by omega) dX10_mixField_18 (hv.2 c1) (fun v9 h11 q12 => ?_)
    obtain ⟨z10, rfl, hS13, q12⟩ := q12
    refine wq_st (st' := [vI z10, vL y4]) rfl ?_
    refine wq_i2l dX10_mixField_21 ?_
    refine wN_S (As := [vL y4, vL z10]) md_X10_mix ms_X10_mix lk_X10_259 rfl rfl (Nat.le_of_ble_eq_true rfl) (Nat.le_of_ble_eq_true rfl) (d' := d - 1) (by omega) dX10_mixField_22 q12 (fun v9 h15 q16 => ?_)
    obtain ⟨z14, rfl, hS17, q16⟩ := q16
    refine wq_st (st' := [vL z14]) rfl ?_
    refine wq_lstore (ls' := [(0, vR 1), (1, vL y1), (3, vR y3), (4, vL z14), (6, vI y6)]) (by decide) rfl dX10_mixField_25 ?_
    refine z_nm (y6 + 1) (fun x18 e19 => ?_)
    refine wq_iinc (y := x18) (ls' := [(0, vR 1), (1, vL y1), (3, vR y3), (4, vL z14), (6, vI x18)]) 4 rfl e19.symm (by rw [e19]; exact q16.1) (by decide) rfl dX10_mixField_27 ?_
    refine wq_goto 6 rfl dX10_mixField_30 ?_
    exact wq_pick [0, 1, 2, 3, 4] rfl (hI_6 y1 y3 z14 x18 h15 ((q16.2 x18 e19) hS17))
theorem vc_X10_mixField_54 {G : zG} {d : Nat} {Q : Option zV → zHp → Prop} (y1 : Int) (y3 : Nat) (hT_y3 : zT 369 y3 = (103, 8)) (y4 : Int) (y6 : Int) (h : zHp) (hS : zSh h) (hd : 1 ≤ d) (I_54 : Int → Nat → Int → Int → zHp → Prop) (hI_54 : ∀ (y1 : Int) (y3 : Nat) (y4 : Int) (y6 : Int) (h' : zHp), I_54 y1 y3 y4 y6 h' → wpN G d M_X10_mixField 54 [(0, vR 1), (1, vL y1), (3, vR y3), (4, vL y4), (6, vI y6)] [] h' Q) 
    (hv : (((gI h y3 6) ≤ y6 → Q (some (vL y4)) h) ∧ (y6 < (gI h y3 6) → (wpN G (d - 1) M_X3_pathName 0 (zar 0 [vR y3, vI y6]) [] h (qI (fun z2 h3 => zSh h3 ∧ (wpN G (d - 1) M_X10_mix 0 (zar 0 [vL y4, vL z2]) [] h3 (qL (fun z6 h7 => zSh h7 ∧ ((-2147483648 ≤ y6 + 1 ∧ y6 + 1 ≤ 2147483647) ∧ ∀ x10 : Int, x10 = y6 + 1 → (zSh h7 → I_54 y1 y3 z6 x10 h7))))))))))) : wpN G d M_X10_mixField 54 [(0, vR 1), (1, vL y1), (3, vR y3), (4, vL y4), (6, vI y6)] [] h Q := by
  refine wq_iload 4 rfl dX10_mixField_54 ?_
  refine wq_aload_n 2 rfl rfl dX10_mixField_56 ?_
  refine wq_getI fk_X10_306 hT_y3 (fun _ _ _ => rfl) dX10_mixField_57 ?_
  refine wq_icmp_ge 83 rfl dX10_mixField_60 (fun c1 => ?_) (fun c1 => ?_)
  · refine wq_lload 3 rfl dX10_mixField_83 ?_
    exact wp_lret rfl dX10_mixField_85 (hv.1 c1)
  · refine wq_lload 3 rfl dX10_mixField_63 ?_
    refine wq_aload_n 2 rfl rfl dX10_mixField_65 ?_
    refine wq_iload 4 rfl dX10_mixField_66 ?_
    refine wN_V (As := [vI y6]) vm_X3_pathName lk_X10_196 hT_y3 rfl rfl (Nat.le_of_ble_eq_true rfl) (Nat.le_of_ble_eq_true rfl) (d' := d - 1) (by omega) dX10_mixField_68 (hv.2 c1) (fun v9 h3 q4 => ?_)
    obtain ⟨z2, rfl, hS5, q4⟩ := q4
    refine wq_st (st' := [vI z2, vL y4]) rfl ?_
    refine wq_i2l dX10_mixField_71 ?_
    refine wN_S (As := [vL y4, vL z2]) md_X10_mix ms_X10_mix lk_X10_259 rfl rfl (Nat.le_of_ble_eq_true rfl) (Nat.le_of_ble_eq_true rfl) (d' := d - 1) (by omega) dX10_mixField_72 q4 (fun v9 h7 q8 => ?_)
    obtain ⟨z6, rfl, hS9, q8⟩ := q8
    refine wq_st (st' := [vL z6]) rfl ?_
    refine wq_lstore (ls' := [(0, vR 1), (1, vL y1), (3, vR y3), (4, vL z6), (6, vI y6)]) (by decide) rfl dX10_mixField_75 ?_
    refine z_nm (y6 + 1) (fun x10 e11 => ?_)
    refine wq_iinc (y := x10) (ls' := [(0, vR 1), (1, vL y1), (3, vR y3), (4, vL z6), (6, vI x10)]) 4 rfl e11.symm (by rw [e11]; exact q8.1) (by decide) rfl dX10_mixField_77 ?_
    refine wq_goto 54 rfl dX10_mixField_80 ?_
    exact wq_pick [0, 1, 2, 3, 4] rfl (hI_54 y1 y3 z6 x10 h7 ((q8.2 x10 e11) hS9))
