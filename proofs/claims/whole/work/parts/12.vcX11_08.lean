theorem dX11_digest_0 : decode cX11_digest 0 = .ok (.aload_n 0, 1) := by decide +kernel
theorem dX11_digest_1 : decode cX11_digest 1 = .ok (.ldc2_w 388, 3) := by decide +kernel
theorem dX11_digest_4 : decode cX11_digest 4 = .ok (.putfield 377, 3) := by decide +kernel
theorem dX11_digest_7 : decode cX11_digest 7 = .ok (.aload_n 0, 1) := by decide +kernel
theorem dX11_digest_8 : decode cX11_digest 8 = .ok (.aload_n 0, 1) := by decide +kernel
theorem dX11_digest_9 : decode cX11_digest 9 = .ok (.invokevirtual 218, 3) := by decide +kernel
theorem dX11_digest_12 : decode cX11_digest 12 = .ok (.i2l, 1) := by decide +kernel
theorem dX11_digest_13 : decode cX11_digest 13 = .ok (.invokevirtual 384, 3) := by decide +kernel
theorem dX11_digest_16 : decode cX11_digest 16 = .ok (.iconst 0, 1) := by decide +kernel
theorem dX11_digest_17 : decode cX11_digest 17 = .ok (.istore_n 1, 1) := by decide +kernel
theorem dX11_digest_18 : decode cX11_digest 18 = .ok (.iload_n 1, 1) := by decide +kernel
theorem dX11_digest_19 : decode cX11_digest 19 = .ok (.aload_n 0, 1) := by decide +kernel
theorem dX11_digest_20 : decode cX11_digest 20 = .ok (.invokevirtual 218, 3) := by decide +kernel
theorem dX11_digest_23 : decode cX11_digest 23 = .ok (.if_icmp .ge 20, 3) := by decide +kernel
theorem dX11_digest_26 : decode cX11_digest 26 = .ok (.aload_n 0, 1) := by decide +kernel
theorem dX11_digest_27 : decode cX11_digest 27 = .ok (.aload_n 0, 1) := by decide +kernel
theorem dX11_digest_28 : decode cX11_digest 28 = .ok (.getfield 7, 3) := by decide +kernel
theorem dX11_digest_31 : decode cX11_digest 31 = .ok (.iload_n 1, 1) := by decide +kernel
theorem dX11_digest_32 : decode cX11_digest 32 = .ok (.iaload, 1) := by decide +kernel
theorem dX11_digest_33 : decode cX11_digest 33 = .ok (.i2l, 1) := by decide +kernel
theorem dX11_digest_34 : decode cX11_digest 34 = .ok (.invokevirtual 384, 3) := by decide +kernel
theorem dX11_digest_37 : decode cX11_digest 37 = .ok (.iinc 1 1, 3) := by decide +kernel
theorem dX11_digest_40 : decode cX11_digest 40 = .ok (.goto (-22), 3) := by decide +kernel
theorem dX11_digest_43 : decode cX11_digest 43 = .ok (.iconst 0, 1) := by decide +kernel
theorem dX11_digest_44 : decode cX11_digest 44 = .ok (.istore_n 1, 1) := by decide +kernel
theorem dX11_digest_45 : decode cX11_digest 45 = .ok (.iload_n 1, 1) := by decide +kernel
theorem dX11_digest_46 : decode cX11_digest 46 = .ok (.iconst 4, 1) := by decide +kernel
theorem dX11_digest_47 : decode cX11_digest 47 = .ok (.if_icmp .ge 32, 3) := by decide +kernel
theorem dX11_digest_50 : decode cX11_digest 50 = .ok (.aload_n 0, 1) := by decide +kernel
theorem dX11_digest_51 : decode cX11_digest 51 = .ok (.iload_n 1, 1) := by decide +kernel
theorem dX11_digest_52 : decode cX11_digest 52 = .ok (.invokevirtual 204, 3) := by decide +kernel
theorem dX11_digest_55 : decode cX11_digest 55 = .ok (.ifCond .eq 11, 3) := by decide +kernel
theorem dX11_digest_58 : decode cX11_digest 58 = .ok (.aload_n 0, 1) := by decide +kernel
theorem dX11_digest_59 : decode cX11_digest 59 = .ok (.iload_n 1, 1) := by decide +kernel
theorem dX11_digest_60 : decode cX11_digest 60 = .ok (.invokevirtual 390, 3) := by decide +kernel
theorem dX11_digest_63 : decode cX11_digest 63 = .ok (.goto 10, 3) := by decide +kernel
theorem dX11_digest_66 : decode cX11_digest 66 = .ok (.aload_n 0, 1) := by decide +kernel
theorem dX11_digest_67 : decode cX11_digest 67 = .ok (.ldc2_w 393, 3) := by decide +kernel
theorem dX11_digest_70 : decode cX11_digest 70 = .ok (.invokevirtual 384, 3) := by decide +kernel
theorem dX11_digest_73 : decode cX11_digest 73 = .ok (.iinc 1 1, 3) := by decide +kernel
theorem dX11_digest_76 : decode cX11_digest 76 = .ok (.goto (-31), 3) := by decide +kernel
theorem dX11_digest_79 : decode cX11_digest 79 = .ok (.iconst 0, 1) := by decide +kernel
theorem dX11_digest_80 : decode cX11_digest 80 = .ok (.istore_n 1, 1) := by decide +kernel
theorem dX11_digest_81 : decode cX11_digest 81 = .ok (.iload_n 1, 1) := by decide +kernel
theorem dX11_digest_82 : decode cX11_digest 82 = .ok (.iconst 4, 1) := by decide +kernel
theorem dX11_digest_83 : decode cX11_digest 83 = .ok (.if_icmp .ge 20, 3) := by decide +kernel
theorem dX11_digest_86 : decode cX11_digest 86 = .ok (.aload_n 0, 1) := by decide +kernel
theorem dX11_digest_87 : decode cX11_digest 87 = .ok (.aload_n 0, 1) := by decide +kernel
theorem dX11_digest_88 : decode cX11_digest 88 = .ok (.getfield 34, 3) := by decide +kernel
theorem dX11_digest_91 : decode cX11_digest 91 = .ok (.iload_n 1, 1) := by decide +kernel
theorem dX11_digest_92 : decode cX11_digest 92 = .ok (.iaload, 1) := by decide +kernel
theorem dX11_digest_93 : decode cX11_digest 93 = .ok (.i2l, 1) := by decide +kernel
theorem dX11_digest_94 : decode cX11_digest 94 = .ok (.invokevirtual 384, 3) := by decide +kernel
theorem dX11_digest_97 : decode cX11_digest 97 = .ok (.iinc 1 1, 3) := by decide +kernel
theorem dX11_digest_100 : decode cX11_digest 100 = .ok (.goto (-19), 3) := by decide +kernel
theorem dX11_digest_103 : decode cX11_digest 103 = .ok (.iconst 0, 1) := by decide +kernel
theorem dX11_digest_104 : decode cX11_digest 104 = .ok (.istore_n 1, 1) := by decide +kernel
theorem dX11_digest_105 : decode cX11_digest 105 = .ok (.iload_n 1, 1) := by decide +kernel
theorem dX11_digest_106 : decode cX11_digest 106 = .ok (.bipush 8, 2) := by decide +kernel
theorem dX11_digest_108 : decode cX11_digest 108 = .ok (.if_icmp .ge 19, 3) := by decide +kernel
theorem dX11_digest_111 : decode cX11_digest 111 = .ok (.aload_n 0, 1) := by decide +kernel
theorem dX11_digest_112 : decode cX11_digest 112 = .ok (.aload_n 0, 1) := by decide +kernel
theorem dX11_digest_113 : decode cX11_digest 113 = .ok (.iload_n 1, 1) := by decide +kernel
theorem dX11_digest_114 : decode cX11_digest 114 = .ok (.invokevirtual 395, 3) := by decide +kernel
theorem dX11_digest_117 : decode cX11_digest 117 = .ok (.i2l, 1) := by decide +kernel
theorem dX11_digest_118 : decode cX11_digest 118 = .ok (.invokevirtual 384, 3) := by decide +kernel
theorem dX11_digest_121 : decode cX11_digest 121 = .ok (.iinc 1 1, 3) := by decide +kernel
theorem dX11_digest_124 : decode cX11_digest 124 = .ok (.goto (-19), 3) := by decide +kernel
theorem dX11_digest_127 : decode cX11_digest 127 = .ok (.aload_n 0, 1) := by decide +kernel
theorem dX11_digest_128 : decode cX11_digest 128 = .ok (.getfield 377, 3) := by decide +kernel
theorem dX11_digest_131 : decode cX11_digest 131 = .ok (.lreturn, 1) := by decide +kernel
theorem vc_X11_digest_0 {G : zG} {d : Nat} {Q : Option zV → zHp → Prop}  (h : zHp) (hS : zSh h) (hd : 7 ≤ d) (I_18 : Int → zHp → Prop) (hI_18 : ∀ (y1 : Int) (h' : zHp), I_18 y1 h' → wpN G d M_X11_digest 18 [(0, vR 343), (1, vI y1)] [] h' Q) 
    (hv : (∀ h1 : zHp, h1 = sL h 343 44 11 → (wpN G (d - 1) M_X11_size 0 (zar 0 [vR 343]) [] h1 (qI (fun z3 h4 => zSh h4 ∧ (wpN G (d - 1) M_X11_mixes 0 (zar 0 [vR 343, vL z3]) [] h4 (qV (fun h8 => zSh h8 ∧ (zSh h8 → I_18 0 h8))))))))) : wpN G d M_X11_digest 0 [(0, vR 343)] [] h Q := by
  refine wq_aload_n 0 rfl rfl dX11_digest_0 ?_
  refine wq_ldc2_w (z := 11) (zlitL rfl) kc_X11_388 dX11_digest_1 ?_
  refine wq_putL fk_X11_377 tT_343 rfl rfl dX11_digest_4 ?_
  refine wq_toph (fun h1 e2 => ?_)
  have sh1 : zSh h1 := zSh_of e2 hS
  refine wq_aload_n 0 rfl rfl dX11_digest_7 ?_
  refine wq_aload_n 0 rfl rfl dX11_digest_8 ?_
  refine wN_V (As := []) vm_X11_size lk_X11_218 tT_343 rfl rfl (Nat.le_of_ble_eq_true rfl) (Nat.le_of_ble_eq_true rfl) (d' := d - 1) (by omega) dX11_digest_9 (hv h1 e2) (fun v9 h4 q5 => ?_)
  obtain ⟨z3, rfl, hS6, q5⟩ := q5
  refine wq_st (st' := [vI z3, vR 343]) rfl ?_
  refine wq_i2l dX11_digest_12 ?_
  refine wN_V (As := [vL z3]) vm_X11_mixes lk_X11_384 tT_343 rfl rfl (Nat.le_of_ble_eq_true rfl) (Nat.le_of_ble_eq_true rfl) (d' := d - 1) (by omega) dX11_digest_13 q5 (fun v9 h8 q9 => ?_)
  obtain ⟨rfl, hS10, q9⟩ := q9
  refine wq_st (st' := []) rfl ?_
  refine wq_iconst (z := 0) (zlit rfl) dX11_digest_16 ?_
  refine wq_istore_n (ls' := [(0, vR 343), (1, vI 0)]) rfl (by decide) rfl dX11_digest_17 ?_
  exact wq_pick [0, 1] rfl (hI_18 0 h8 (q9 hS10))
theorem vc_X11_digest_18 {G : zG} {d : Nat} {Q : Option zV → zHp → Prop} (y1 : Int) (h : zHp) (hS : zSh h) (hd : 7 ≤ d) (I_18 : Int → zHp → Prop) (hI_18 : ∀ (y1 : Int) (h' : zHp), I_18 y1 h' → wpN G d M_X11_digest 18 [(0, vR 343), (1, vI y1)] [] h' Q) (I_45 : Int → zHp → Prop) (hI_45 : ∀ (y1 : Int) (h' : zHp), I_45 y1 h' → wpN G d M_X11_digest 45 [(0, vR 343), (1, vI y1)] [] h' Q) 
    (hv : (wpN G (d - 1) M_X11_size 0 (zar 0 [vR 343]) [] h (qI (fun z1 h2 => zSh h2 ∧ ((z1 ≤ y1 → (zSh h2 → I_45 0 h2)) ∧ (y1 < z1 → (((0 : Int) ≤ y1 ∧ y1 < ((213 : Nat) : Int)) ∧ (wpN G (d - 1) M_X11_mixes 0 (zar 0 [vR 343, vL (gI h2 344 y1.toNat)]) [] h2 (qV (fun h7 => zSh h7 ∧ ((-2147483648 ≤ y1 + 1 ∧ y1 + 1 ≤ 2147483647) ∧ ∀ x10 : Int, x10 = y1 + 1 → (zSh h7 → I_18 x10 h7)))))))))))) : wpN G d M_X11_digest 18 [(0, vR 343), (1, vI y1)] [] h Q := by
  refine wq_iload_n 1 rfl rfl dX11_digest_18 ?_
  refine wq_aload_n 0 rfl rfl dX11_digest_19 ?_
  refine wN_V (As := []) vm_X11_size lk_X11_218 tT_343 rfl rfl (Nat.le_of_ble_eq_true rfl) (Nat.le_of_ble_eq_true rfl) (d' := d - 1) (by omega) dX11_digest_20 hv (fun v9 h2 q3 => ?_)
  obtain ⟨z1, rfl, hS4, q3⟩ := q3
  refine wq_st (st' := [vI z1, vI y1]) rfl ?_
  refine wq_icmp_ge 43 rfl dX11_digest_23 (fun c5 => ?_) (fun c5 => ?_)
  · refine wq_iconst (z := 0) (zlit rfl) dX11_digest_43 ?_
    refine wq_istore_n (ls' := [(0, vR 343), (1, vI 0)]) rfl (by decide) rfl dX11_digest_44 ?_
    exact wq_pick [0, 1] rfl (hI_45 0 h2 ((q3.1 c5) hS4))
  · refine wq_aload_n 0 rfl rfl dX11_digest_26 ?_
    refine wq_aload_n 0 rfl rfl dX11_digest_27 ?_
    refine wq_getR fk_X11_7 tT_343 (fun _ _ _ => rfl) (sh_11_0 hS4) (by decide) dX11_digest_28 ?_
    refine wq_iload_n 1 rfl rfl dX11_digest_31 ?_
    refine wq_iald tT_344 (q3.2 c5).1.1 (q3.2 c5).1.2 dX11_digest_32 ?_
    refine wq_i2l dX11_digest_33 ?_
    refine wN_V (As := [vL (gI h2 344 y1.toNat)]) vm_X11_mixes lk_X11_384 tT_343 rfl rfl (Nat.le_of_ble_eq_true rfl) (Nat.le_of_ble_eq_true rfl) (d' := d - 1) (by omega) dX11_digest_34 (q3.2 c5).2 (fun v9 h7 q8 => ?_)
    obtain ⟨rfl, hS9, q8⟩ := q8
    refine wq_st (st' := []) rfl ?_
    refine z_nm (y1 + 1) (fun x10 e11 => ?_)
    refine wq_iinc (y := x10) (ls' := [(0, vR 343), (1, vI x10)]) 1 rfl e11.symm (by rw [e11]; exact q8.1) (by decide) rfl dX11_digest_37 ?_
    refine wq_goto 18 rfl dX11_digest_40 ?_
    exact wq_pick [0, 1] rfl (hI_18 x10 h7 ((q8.2 x10 e11) hS9))
theorem vc_X11_digest_45 {G : zG} {d : Nat} {Q : Option zV → zHp → Prop} (y1 : Int) (h : zHp) (hS : zSh h) (hd : 7 ≤ d) (I_45 : Int → zHp → Prop) (hI_45 : ∀ (y1 : Int) (h' : zHp), I_45 y1 h' → wpN G d M_X11_digest 45 [(0, vR 343), (1, vI y1)] [] h' Q) (I_81 : Int → zHp → Prop) (hI_81 : ∀ (y1 : Int) (h' : zHp), I_81 y1 h' → wpN G d M_X11_digest 81 [(0, vR 343), (1, vI y1)] [] h' Q) 
    (hv : ((4 ≤ y1 → (zSh h → I_81 0 h)) ∧ (y1 < 4 → (wpN G (d - 1) M_X11_isPresent 0 (zar 0 [vR 343, vI y1]) [] h (qI (fun z2 h3 => zSh h3 ∧ ((z2 = 0 → (wpN G (d - 1) M_X11_mixes 0 (zar 0 [vR 343, vL (-1)]) [] h3 (qV (fun h8 => zSh h8 ∧ ((-2147483648 ≤ y1 + 1 ∧ y1 + 1 ≤ 2147483647) ∧ ∀ x11 : Int, x11 = y1 + 1 → (zSh h8 → I_45 x11 h8)))))) ∧ (z2 ≠ 0 → (wpN G (d - 1) M_X11_mixesOverlay 0 (zar 0 [vR 343, vI y1]) [] h3 (qV (fun h14 => zSh h14 ∧ ((-2147483648 ≤ y1 + 1 ∧ y1 + 1 ≤ 2147483647) ∧ ∀ x17 : Int, x17 = y1 + 1 → (zSh h14 → I_45 x17 h14))))))))))))) : wpN G d M_X11_digest 45 [(0, vR 343), (1, vI y1)] [] h Q := by
  refine wq_iload_n 1 rfl rfl dX11_digest_45 ?_
  refine wq_iconst (z := 4) (zlit rfl) dX11_digest_46 ?_
  refine wq_icmp_ge 79 rfl dX11_digest_47 (fun c1 => ?_) (fun c1 => ?_)
  · refine wq_iconst (z := 0) (zlit rfl) dX11_digest_79 ?_
    refine wq_istore_n (ls' := [(0, vR 343), (1, vI 0)]) rfl (by decide) rfl dX11_digest_80 ?_
    exact wq_pick [0, 1] rfl (hI_81 0 h ((hv.1 c1) hS))
  · refine wq_aload_n 0 rfl rfl dX11_digest_50 ?_
    refine wq_iload_n 1 rfl rfl dX11_digest_51 ?_
    refine wN_V (As := [vI y1]) vm_X11_isPresent lk_X11_204 tT_343 rfl rfl (Nat.le_of_ble_eq_true rfl) (Nat.le_of_ble_eq_true rfl) (d' := d - 1) (by omega) dX11_digest_52 (hv.2 c1) (fun v9 h3 q4 => ?_)
    obtain ⟨z2, rfl, hS5, q4⟩ := q4
    refine wq_st (st' := [vI z2]) rfl ?_
    refine wq_if_eq 66 rfl dX11_digest_55 (fun c6 => ?_) (fun c6 => ?_)
    · refine wq_aload_n 0 rfl rfl dX11_digest_66 ?_
      refine wq_ldc2_w (z := -1) (zlitL rfl) kc_X11_393 dX11_digest_67 ?_
      refine wN_V (As := [vL (-1)]) vm_X11_mixes lk_X11_384 tT_343 rfl rfl (Nat.le_of_ble_eq_true rfl) (Nat.le_of_ble_eq_true rfl) (d' := d - 1) (by omega) dX11_digest_70 (q4.1 c6) (fun v9 h8 q9 => ?_)
      obtain ⟨rfl, hS10, q9⟩ := q9
      refine wq_st (st' := []) rfl ?_
      refine z_nm (y1 + 1) (fun x11 e12 => ?_)
      refine wq_iinc (y := x11) (ls' := [(0, vR 343), (1, vI x11)]) 1 rfl e12.symm (by rw [e12]; exact q9.1) (by decide) rfl dX11_digest_73 ?_
      refine wq_goto 45 rfl dX11_digest_76 ?_
      exact wq_pick [0, 1] rfl (hI_45 x11 h8 ((q9.2 x11 e12) hS10))
    · refine wq_aload_n 0 rfl rfl dX11_digest_58 ?_
      refine wq_iload_n 1 rfl rfl dX11_digest_59 ?_
      refine wN_V (As := [vI y1]) vm_X11_mixesOverlay lk_X11_390 tT_343 rfl rfl (Nat.le_of_ble_eq_true rfl) (Nat.le_of_ble_eq_true rfl) (d' := d - 1) (by omega) dX11_digest_60 (q4.2 c6) (fun v9 h14 q15 => ?_)
      obtain ⟨rfl, hS16, q15⟩ := q15
      refine wq_st (st' := []) rfl ?_
      refine wq_goto 73 rfl dX11_digest_63 ?_
      refine z_nm (y1 + 1) (fun x17 e18 => ?_)
      refine wq_iinc (y := x17) (ls' := [(0, vR 343), (1, vI x17)]) 1 rfl e18.symm (by rw [e18]; exact q15.1) (by decide) rfl dX11_digest_73 ?_
      refine wq_goto 45 rfl dX11_digest_76 ?_
      exact wq_pick [0, 1] rfl (hI_45 x17 h14 ((q15.2 x17 e18) hS16))
theorem vc_X11_digest_81 {G : zG} {d : Nat} {Q : Option zV → zHp → Prop} (y1 : Int) (h : zHp) (hS : zSh h) (hd : 7 ≤ d) (I_81 : Int → zHp → Prop) (hI_81 : ∀ (y1 : Int) (h' : zHp), I_81 y1 h' → wpN G d M_X11_digest 81 [(0, vR 343), (1, vI y1)] [] h' Q) (I_105 : Int → zHp → Prop) (hI_105 : ∀ (y1 : Int) (h' : zHp), I_105 y1 h' → wpN G d M_X11_digest 105 [(0, vR 343), (1, vI y1)] [] h' Q) 
    (hv : ((4 ≤ y1 → (zSh h → I_105 0 h)) ∧ (y1 < 4 → (((0 : Int) ≤ y1 ∧ y1 < ((5 : Nat) : Int)) ∧ (wpN G (d - 1) M_X11_mixes 0 (zar 0 [vR 343, vL (gI h 352 y1.toNat)]) [] h (qV (fun h3 => zSh h3 ∧ ((-2147483648 ≤ y1 + 1 ∧ y1 + 1 ≤ 2147483647) ∧ ∀ x6 : Int, x6 = y1 + 1 → (zSh h3 → I_81 x6 h3))))))))) : wpN G d M_X11_digest 81 [(0, vR 343), (1, vI y1)] [] h Q := by
  refine wq_iload_n 1 rfl rfl dX11_digest_81 ?_
  refine wq_iconst (z := 4) (zlit rfl) dX11_digest_82 ?_
  refine wq_icmp_ge 103 rfl dX11_digest_83 (fun c1 => ?_) (fun c1 => ?_)
  · refine wq_iconst (z := 0) (zlit rfl) dX11_digest_103 ?_
    refine wq_istore_n (ls' := [(0, vR 343), (1, vI 0)]) rfl (by decide) rfl dX11_digest_104 ?_
    exact wq_pick [0, 1] rfl (hI_105 0 h ((hv.1 c1) hS))
  · refine wq_aload_n 0 rfl rfl dX11_digest_86 ?_
    refine wq_aload_n 0 rfl rfl dX11_digest_87 ?_
    refine wq_getR fk_X11_34 tT_343 (fun _ _ _ => rfl) (sh_11_14 hS) (by decide) dX11_digest_88 ?_
    refine wq_iload_n 1 rfl rfl dX11_digest_91 ?_
    refine wq_iald tT_352 (hv.2 c1).1.1 (hv.2 c1).1.2 dX11_digest_92 ?_
    refine wq_i2l dX11_digest_93 ?_
    refine wN_V (As := [vL (gI h 352 y1.toNat)]) vm_X11_mixes lk_X11_384 tT_343 rfl rfl (Nat.le_of_ble_eq_true rfl) (Nat.le_of_ble_eq_true rfl) (d' := d - 1) (by omega) dX11_digest_94 (hv.2 c1).2 (fun v9 h3 q4 => ?_)
    obtain ⟨rfl, hS5, q4⟩ := q4
    refine wq_st (st' := []) rfl ?_
    refine z_nm (y1 + 1) (fun x6 e7 => ?_)
    refine wq_iinc (y := x6) (ls' := [(0, vR 343), (1, vI x6)]) 1 rfl e7.symm (by rw [e7]; exact q4.1) (by decide) rfl dX11_digest_97 ?_
    refine wq_goto 81 rfl dX11_digest_100 ?_
    exact wq_pick [0, 1] rfl (hI_81 x6 h3 ((q4.2 x6 e7) hS5))
theorem vc_X11_digest_105 {G : zG} {d : Nat} {Q : Option zV → zHp → Prop} (y1 : Int) (h : zHp) (hS : zSh h) (hd : 7 ≤ d) (I_105 : Int → zHp → Prop) (hI_105 : ∀ (y1 : Int) (h' : zHp), I_105 y1 h' → wpN G d M_X11_digest 105 [(0, vR 343), (1, vI y1)] [] h' Q) 
    (hv : ((8 ≤ y1 → Q (some (vL (gL h 343 44))) h) ∧ (y1 < 8 → (wpN G (d - 1) M_X11_count 0 (zar 0 [vR 343, vI y1]) [] h (qI (fun z2 h3 => zSh h3 ∧ (wpN G (d - 1) M_X11_mixes 0 (zar 0 [vR 343, vL z2]) [] h3 (qV (fun h7 => zSh h7 ∧ ((-2147483648 ≤ y1 + 1 ∧ y1 + 1 ≤ 2147483647) ∧ ∀ x10 : Int, x10 = y1 + 1 → (zSh h7 → I_105 x10 h7))))))))))) : wpN G d M_X11_digest 105 [(0, vR 343), (1, vI y1)] [] h Q := by
  refine wq_iload_n 1 rfl rfl dX11_digest_105 ?_
  refine wq_bipush (z := 8) (zlit rfl) rfl dX11_digest_106 ?_
  refine wq_icmp_ge 127 rfl dX11_digest_108 (fun c1 => ?_) (fun c1 => ?_)
  · refine wq_aload_n 0 rfl rfl dX11_digest_127 ?_
    refine wq_getL fk_X11_377 tT_343 (fun _ _ _ => rfl) dX11_digest_128 ?_
    exact wp_lret rfl dX11_digest_131 (hv.1 c1)
  · refine wq_aload_n 0 rfl rfl dX11_digest_111 ?_
    refine wq_aload_n 0 rfl rfl dX11_digest_112 ?_
    refine wq_iload_n 1 rfl rfl dX11_digest_113 ?_
    refine wN_V (As := [vI y1]) vm_X11_count lk_X11_395 tT_343 rfl rfl (Nat.le_of_ble_eq_true rfl) (Nat.le_of_ble_eq_true rfl) (d' := d - 1) (by omega) dX11_digest_114 (hv.2 c1) (fun v9 h3 q4 => ?_)
    obtain ⟨z2, rfl, hS5, q4⟩ := q4
    refine wq_st (st' := [vI z2, vR 343]) rfl ?_
    refine wq_i2l dX11_digest_117 ?_
    refine wN_V (As := [vL z2]) vm_X11_mixes lk_X11_384 tT_343 rfl rfl (Nat.le_of_ble_eq_true rfl) (Nat.le_of_ble_eq_true rfl) (d' := d - 1) (by omega) dX11_digest_118 q4 (fun v9 h7 q8 => ?_)
    obtain ⟨rfl, hS9, q8⟩ := q8
    refine wq_st (st' := []) rfl ?_
    refine z_nm (y1 + 1) (fun x10 e11 => ?_)
    refine wq_iinc (y := x10) (ls' := [(0, vR 343), (1, vI x10)]) 1 rfl e11.symm (by rw [e11]; exact q8.1) (by decide) rfl dX11_digest_121 ?_
    refine wq_goto 105 rfl dX11_digest_124 ?_
    exact wq_pick [0, 1] rfl (hI_105 x10 h7 ((q8.2 x10 e11) hS9))
