theorem dX11_remove_0 : decode cX11_remove 0 = .ok (.aload_n 0, 1) := by decide +kernel
theorem dX11_remove_1 : decode cX11_remove 1 = .ok (.iload_n 1, 1) := by decide +kernel
theorem dX11_remove_2 : decode cX11_remove 2 = .ok (.invokevirtual 204, 3) := by decide +kernel
theorem dX11_remove_5 : decode cX11_remove 5 = .ok (.ifCond .ne 7, 3) := by decide +kernel
theorem dX11_remove_8 : decode cX11_remove 8 = .ok (.sipush (-1001), 3) := by decide +kernel
theorem dX11_remove_11 : decode cX11_remove 11 = .ok (.ireturn, 1) := by decide +kernel
theorem dX11_remove_12 : decode cX11_remove 12 = .ok (.aload_n 0, 1) := by decide +kernel
theorem dX11_remove_13 : decode cX11_remove 13 = .ok (.invokevirtual 328, 3) := by decide +kernel
theorem dX11_remove_16 : decode cX11_remove 16 = .ok (.aload_n 0, 1) := by decide +kernel
theorem dX11_remove_17 : decode cX11_remove 17 = .ok (.iload_n 1, 1) := by decide +kernel
theorem dX11_remove_18 : decode cX11_remove 18 = .ok (.invokevirtual 275, 3) := by decide +kernel
theorem dX11_remove_21 : decode cX11_remove 21 = .ok (.istore_n 2, 1) := by decide +kernel
theorem dX11_remove_22 : decode cX11_remove 22 = .ok (.iconst 1, 1) := by decide +kernel
theorem dX11_remove_23 : decode cX11_remove 23 = .ok (.istore_n 3, 1) := by decide +kernel
theorem dX11_remove_24 : decode cX11_remove 24 = .ok (.iload_n 3, 1) := by decide +kernel
theorem dX11_remove_25 : decode cX11_remove 25 = .ok (.iconst 4, 1) := by decide +kernel
theorem dX11_remove_26 : decode cX11_remove 26 = .ok (.if_icmp .ge 24, 3) := by decide +kernel
theorem dX11_remove_29 : decode cX11_remove 29 = .ok (.aload_n 0, 1) := by decide +kernel
theorem dX11_remove_30 : decode cX11_remove 30 = .ok (.getfield 7, 3) := by decide +kernel
theorem dX11_remove_33 : decode cX11_remove 33 = .ok (.sipush 200, 3) := by decide +kernel
theorem dX11_remove_36 : decode cX11_remove 36 = .ok (.iload_n 3, 1) := by decide +kernel
theorem dX11_remove_37 : decode cX11_remove 37 = .ok (.iadd, 1) := by decide +kernel
theorem dX11_remove_38 : decode cX11_remove 38 = .ok (.iconst 3, 1) := by decide +kernel
theorem dX11_remove_39 : decode cX11_remove 39 = .ok (.iload_n 1, 1) := by decide +kernel
theorem dX11_remove_40 : decode cX11_remove 40 = .ok (.imul, 1) := by decide +kernel
theorem dX11_remove_41 : decode cX11_remove 41 = .ok (.iadd, 1) := by decide +kernel
theorem dX11_remove_42 : decode cX11_remove 42 = .ok (.iconst 0, 1) := by decide +kernel
theorem dX11_remove_43 : decode cX11_remove 43 = .ok (.iastore, 1) := by decide +kernel
theorem dX11_remove_44 : decode cX11_remove 44 = .ok (.iinc 3 1, 3) := by decide +kernel
theorem dX11_remove_47 : decode cX11_remove 47 = .ok (.goto (-23), 3) := by decide +kernel
theorem dX11_remove_50 : decode cX11_remove 50 = .ok (.aload_n 0, 1) := by decide +kernel
theorem dX11_remove_51 : decode cX11_remove 51 = .ok (.iconst 1, 1) := by decide +kernel
theorem dX11_remove_52 : decode cX11_remove 52 = .ok (.invokevirtual 334, 3) := by decide +kernel
theorem dX11_remove_55 : decode cX11_remove 55 = .ok (.ifCond .eq 7, 3) := by decide +kernel
theorem dX11_remove_58 : decode cX11_remove 58 = .ok (.iload_n 2, 1) := by decide +kernel
theorem dX11_remove_59 : decode cX11_remove 59 = .ok (.goto 6, 3) := by decide +kernel
theorem dX11_remove_62 : decode cX11_remove 62 = .ok (.sipush (-1005), 3) := by decide +kernel
theorem dX11_remove_65 : decode cX11_remove 65 = .ok (.ireturn, 1) := by decide +kernel
theorem vc_X11_remove_0 {G : zG} {d : Nat} {Q : Option zV → zHp → Prop} (p1 : Int) (h : zHp) (hS : zSh h) (hd : 8 ≤ d) (I_24 : Int → Int → Int → zHp → Prop) (hI_24 : ∀ (y1 : Int) (y2 : Int) (y3 : Int) (h' : zHp), I_24 y1 y2 y3 h' → wpN G d M_X11_remove 24 [(0, vR 343), (1, vI y1), (2, vI y2), (3, vI y3)] [] h' Q) 
    (hv : (wpN G (d - 1) M_X11_isPresent 0 (zar 0 [vR 343, vI p1]) [] h (qI (fun z1 h2 => zSh h2 ∧ ((z1 ≠ 0 → (wpN G (d - 1) M_X11_keeps 0 (zar 0 [vR 343]) [] h2 (qV (fun h7 => zSh h7 ∧ (wpN G (d - 1) M_X11_offsetOf 0 (zar 0 [vR 343, vI p1]) [] h7 (qI (fun z10 h11 => zSh h11 ∧ (zSh h11 → I_24 p1 z10 1 h11)))))))) ∧ (z1 = 0 → Q (some (vI (-1001))) h2)))))) : wpN G d M_X11_remove 0 [(0, vR 343), (1, vI p1)] [] h Q := by
  refine wq_aload_n 0 rfl rfl dX11_remove_0 ?_
  refine wq_iload_n 1 rfl rfl dX11_remove_1 ?_
  refine wN_V (As := [vI p1]) vm_X11_isPresent lk_X11_204 tT_343 rfl rfl (Nat.le_of_ble_eq_true rfl) (Nat.le_of_ble_eq_true rfl) (d' := d - 1) (by omega) dX11_remove_2 hv (fun v9 h2 q3 => ?_)
  obtain ⟨z1, rfl, hS4, q3⟩ := q3
  refine wq_st (st' := [vI z1]) rfl ?_
  refine wq_if_ne 12 rfl dX11_remove_5 (fun c5 => ?_) (fun c5 => ?_)
  · refine wq_aload_n 0 rfl rfl dX11_remove_12 ?_
    refine wN_V (As := []) vm_X11_keeps lk_X11_328 tT_343 rfl rfl (Nat.le_of_ble_eq_true rfl) (Nat.le_of_ble_eq_true rfl) (d' := d - 1) (by omega) dX11_remove_13 (q3.1 c5) (fun v9 h7 q8 => ?_)
    obtain ⟨rfl, hS9, q8⟩ := q8
    refine wq_st (st' := []) rfl ?_
    refine wq_aload_n 0 rfl rfl dX11_remove_16 ?_
    refine wq_iload_n 1 rfl rfl dX11_remove_17 ?_
    refine wN_V (As := [vI p1]) vm_X11_offsetOf lk_X11_275 tT_343 rfl rfl (Nat.le_of_ble_eq_true rfl) (Nat.le_of_ble_eq_true rfl) (d' := d - 1) (by omega) dX11_remove_18 q8 (fun v9 h11 q12 => ?_)
    obtain ⟨z10, rfl, hS13, q12⟩ := q12
    refine wq_st (st' := [vI z10]) rfl ?_
    refine wq_istore_n (ls' := [(0, vR 343), (1, vI p1), (2, vI z10)]) rfl (by decide) rfl dX11_remove_21 ?_
    refine wq_iconst (z := 1) (zlit rfl) dX11_remove_22 ?_
    refine wq_istore_n (ls' := [(0, vR 343), (1, vI p1), (2, vI z10), (3, vI 1)]) rfl (by decide) rfl dX11_remove_23 ?_
    exact wq_pick [0, 1, 2, 3] rfl (hI_24 p1 z10 1 h11 (q12 hS13))
  · refine wq_sipush (z := -1001) (zlit rfl) rfl dX11_remove_8 ?_
    exact wp_iret rfl dX11_remove_11 (q3.2 c5)
theorem vc_X11_remove_24 {G : zG} {d : Nat} {Q : Option zV → zHp → Prop} (y1 : Int) (y2 : Int) (y3 : Int) (h : zHp) (hS : zSh h) (hd : 8 ≤ d) (I_24 : Int → Int → Int → zHp → Prop) (hI_24 : ∀ (y1 : Int) (y2 : Int) (y3 : Int) (h' : zHp), I_24 y1 y2 y3 h' → wpN G d M_X11_remove 24 [(0, vR 343), (1, vI y1), (2, vI y2), (3, vI y3)] [] h' Q) 
    (hv : ((4 ≤ y3 → (wpN G (d - 1) M_X11_stays 0 (zar 0 [vR 343, vI 1]) [] h (qI (fun z2 h3 => zSh h3 ∧ ((z2 = 0 → Q (some (vI (-1005))) h3) ∧ (z2 ≠ 0 → Q (some (vI y2)) h3)))))) ∧ (y3 < 4 → ((-2147483648 ≤ 200 + y3 ∧ 200 + y3 ≤ 2147483647) ∧ ((-2147483648 ≤ 3 * y1 ∧ 3 * y1 ≤ 2147483647) ∧ ((-2147483648 ≤ (200 + y3) + (3 * y1) ∧ (200 + y3) + (3 * y1) ≤ 2147483647) ∧ (((0 : Int) ≤ ((200 + y3) + (3 * y1)) ∧ ((200 + y3) + (3 * y1)) < ((213 : Nat) : Int)) ∧ (∀ h7 : zHp, h7 = sI h 344 ((200 + y3) + (3 * y1)).toNat 0 → ((-2147483648 ≤ y3 + 1 ∧ y3 + 1 ≤ 2147483647) ∧ ∀ x9 : Int, x9 = y3 + 1 → (zSh h7 → I_24 y1 y2 x9 h7)))))))))) : wpN G d M_X11_remove 24 [(0, vR 343), (1, vI y1), (2, vI y2), (3, vI y3)] [] h Q := by
  refine wq_iload_n 3 rfl rfl dX11_remove_24 ?_
  refine wq_iconst (z := 4) (zlit rfl) dX11_remove_25 ?_
  refine wq_icmp_ge 50 rfl dX11_remove_26 (fun c1 => ?_) (fun c1 => ?_)
  · refine wq_aload_n 0 rfl rfl dX11_remove_50 ?_
    refine wq_iconst (z := 1) (zlit rfl) dX11_remove_51 ?_
    refine wN_V (As := [vI 1]) vm_X11_stays lk_X11_334 tT_343 rfl rfl (Nat.le_of_ble_eq_true rfl) (Nat.le_of_ble_eq_true rfl) (d' := d - 1) (by omega) dX11_remove_52 (hv.1 c1) (fun v9 h3 q4 => ?_)
    obtain ⟨z2, rfl, hS5, q4⟩ := q4
    refine wq_st (st' := [vI z2]) rfl ?_
    refine wq_if_eq 62 rfl dX11_remove_55 (fun c6 => ?_) (fun c6 => ?_)
    · refine wq_sipush (z := -1005) (zlit rfl) rfl dX11_remove_62 ?_
      exact wp_iret rfl dX11_remove_65 (q4.1 c6)
    · refine wq_iload_n 2 rfl rfl dX11_remove_58 ?_
      refine wq_goto 65 rfl dX11_remove_59 ?_
      exact wp_iret rfl dX11_remove_65 (q4.2 c6)
  · refine wq_aload_n 0 rfl rfl dX11_remove_29 ?_
    refine wq_getR fk_X11_7 tT_343 (fun _ _ _ => rfl) (sh_11_0 hS) (by decide) dX11_remove_30 ?_
    refine wq_sipush (z := 200) (zlit rfl) rfl dX11_remove_33 ?_
    refine wq_iload_n 3 rfl rfl dX11_remove_36 ?_
    refine wq_iadd (hv.2 c1).1 dX11_remove_37 ?_
    refine wq_iconst (z := 3) (zlit rfl) dX11_remove_38 ?_
    refine wq_iload_n 1 rfl rfl dX11_remove_39 ?_
    refine wq_imul (hv.2 c1).2.1 dX11_remove_40 ?_
    refine wq_iadd (hv.2 c1).2.2.1 dX11_remove_41 ?_
    refine wq_iconst (z := 0) (zlit rfl) dX11_remove_42 ?_
    refine wq_iast tT_344 (hv.2 c1).2.2.2.1.1 (hv.2 c1).2.2.2.1.2 dX11_remove_43 ?_
    refine wq_toph (fun h7 e8 => ?_)
    have sh7 : zSh h7 := zSh_of e8 hS
    refine z_nm (y3 + 1) (fun x9 e10 => ?_)
    refine wq_iinc (y := x9) (ls' := [(0, vR 343), (1, vI y1), (2, vI y2), (3, vI x9)]) 3 rfl e10.symm (by rw [e10]; exact ((hv.2 c1).2.2.2.2 h7 e8).1) (by decide) rfl dX11_remove_44 ?_
    refine wq_goto 24 rfl dX11_remove_47 ?_
    exact wq_pick [0, 1, 2, 3] rfl (hI_24 y1 y2 x9 h7 ((((hv.2 c1).2.2.2.2 h7 e8).2 x9 e10) sh7))
theorem dX11_overlay_0 : decode cX11_overlay 0 = .ok (.aload_n 0, 1) := by decide +kernel
theorem dX11_overlay_1 : decode cX11_overlay 1 = .ok (.iload_n 1, 1) := by decide +kernel
theorem dX11_overlay_2 : decode cX11_overlay 2 = .ok (.invokevirtual 204, 3) := by decide +kernel
theorem dX11_overlay_5 : decode cX11_overlay 5 = .ok (.ifCond .eq 15, 3) := by decide +kernel
theorem dX11_overlay_8 : decode cX11_overlay 8 = .ok (.iload_n 2, 1) := by decide +kernel
theorem dX11_overlay_9 : decode cX11_overlay 9 = .ok (.i2l, 1) := by decide +kernel
theorem dX11_overlay_10 : decode cX11_overlay 10 = .ok (.lconst 0, 1) := by decide +kernel
theorem dX11_overlay_11 : decode cX11_overlay 11 = .ok (.ldc2_w 343, 3) := by decide +kernel
theorem dX11_overlay_14 : decode cX11_overlay 14 = .ok (.invokestatic 91, 3) := by decide +kernel
theorem dX11_overlay_17 : decode cX11_overlay 17 = .ok (.ifCond .ne 7, 3) := by decide +kernel
theorem dX11_overlay_20 : decode cX11_overlay 20 = .ok (.sipush (-1001), 3) := by decide +kernel
theorem dX11_overlay_23 : decode cX11_overlay 23 = .ok (.ireturn, 1) := by decide +kernel
theorem dX11_overlay_24 : decode cX11_overlay 24 = .ok (.aload_n 0, 1) := by decide +kernel
theorem dX11_overlay_25 : decode cX11_overlay 25 = .ok (.iload_n 1, 1) := by decide +kernel
theorem dX11_overlay_26 : decode cX11_overlay 26 = .ok (.invokevirtual 295, 3) := by decide +kernel
theorem dX11_overlay_29 : decode cX11_overlay 29 = .ok (.iload_n 2, 1) := by decide +kernel
theorem dX11_overlay_30 : decode cX11_overlay 30 = .ok (.tableswitch 61 0 4 #[34, 40, 46, 51, 56], 34) := by decide +kernel
theorem dX11_overlay_64 : decode cX11_overlay 64 = .ok (.aload_n 0, 1) := by decide +kernel
theorem dX11_overlay_65 : decode cX11_overlay 65 = .ok (.iload_n 1, 1) := by decide +kernel
theorem dX11_overlay_66 : decode cX11_overlay 66 = .ok (.invokevirtual 207, 3) := by decide +kernel
theorem dX11_overlay_69 : decode cX11_overlay 69 = .ok (.ireturn, 1) := by decide +kernel
theorem dX11_overlay_70 : decode cX11_overlay 70 = .ok (.aload_n 0, 1) := by decide +kernel
theorem dX11_overlay_71 : decode cX11_overlay 71 = .ok (.iload_n 1, 1) := by decide +kernel
theorem dX11_overlay_72 : decode cX11_overlay 72 = .ok (.invokevirtual 275, 3) := by decide +kernel
theorem dX11_overlay_75 : decode cX11_overlay 75 = .ok (.ireturn, 1) := by decide +kernel
theorem dX11_overlay_76 : decode cX11_overlay 76 = .ok (.aload_n 0, 1) := by decide +kernel
theorem dX11_overlay_77 : decode cX11_overlay 77 = .ok (.getfield 235, 3) := by decide +kernel
theorem dX11_overlay_80 : decode cX11_overlay 80 = .ok (.ireturn, 1) := by decide +kernel
theorem dX11_overlay_81 : decode cX11_overlay 81 = .ok (.aload_n 0, 1) := by decide +kernel
theorem dX11_overlay_82 : decode cX11_overlay 82 = .ok (.getfield 238, 3) := by decide +kernel
theorem dX11_overlay_85 : decode cX11_overlay 85 = .ok (.ireturn, 1) := by decide +kernel
theorem dX11_overlay_86 : decode cX11_overlay 86 = .ok (.aload_n 0, 1) := by decide +kernel
theorem dX11_overlay_87 : decode cX11_overlay 87 = .ok (.getfield 241, 3) := by decide +kernel
theorem dX11_overlay_90 : decode cX11_overlay 90 = .ok (.ireturn, 1) := by decide +kernel
theorem dX11_overlay_91 : decode cX11_overlay 91 = .ok (.aload_n 0, 1) := by decide +kernel
theorem dX11_overlay_92 : decode cX11_overlay 92 = .ok (.invokevirtual 345, 3) := by decide +kernel
theorem dX11_overlay_95 : decode cX11_overlay 95 = .ok (.ireturn, 1) := by decide +kernel
theorem vc_X11_overlay_0 {G : zG} {d : Nat} {Q : Option zV → zHp → Prop} (p1 : Int) (p2 : Int) (h : zHp) (hS : zSh h) (hd : 5 ≤ d)  
    (hv : (wpN G (d - 1) M_X11_isPresent 0 (zar 0 [vR 343, vI p1]) [] h (qI (fun z1 h2 => zSh h2 ∧ ((z1 = 0 → Q (some (vI (-1001))) h2) ∧ (z1 ≠ 0 → (wpN G (d - 1) M_X11_in 0 (zar 0 [vL p2, vL 0, vL 5]) [] h2 (qI (fun z6 h7 => zSh h7 ∧ ((z6 ≠ 0 → (wpN G (d - 1) M_X11_laysOut 0 (zar 0 [vR 343, vI p1]) [] h7 (qV (fun h12 => zSh h12 ∧ ((p2 < 0 ∨ 4 < p2 → (wpN G (d - 1) M_X11_wrongs 0 (zar 0 [vR 343]) [] h12 (qI (fun z16 h17 => zSh h17 ∧ Q (some (vI z16)) h17)))) ∧ (p2 = 0 + ((0 : Nat) : Int) → (wpN G (d - 1) M_X11_templateOf 0 (zar 0 [vR 343, vI p1]) [] h12 (qI (fun z20 h21 => zSh h21 ∧ Q (some (vI z20)) h21)))) ∧ (p2 = 0 + ((1 : Nat) : Int) → (wpN G (d - 1) M_X11_offsetOf 0 (zar 0 [vR 343, vI p1]) [] h12 (qI (fun z24 h25 => zSh h25 ∧ Q (some (vI z24)) h25)))) ∧ (p2 = 0 + ((2 : Nat) : Int) → Q (some (vI (gI h12 343 31))) h12) ∧ (p2 = 0 + ((3 : Nat) : Int) → Q (some (vI (gI h12 343 32))) h12) ∧ (p2 = 0 + ((4 : Nat) : Int) → Q (some (vI (gI h12 343 33))) h12)))))) ∧ (z6 = 0 → Q (some (vI (-1001))) h7))))))))))) : wpN G d M_X11_overlay 0 [(0, vR 343), (1, vI p1), (2, vI p2)] [] h Q := by
  refine wq_aload_n 0 rfl rfl dX11_overlay_0 ?_
  refine wq_iload_n 1 rfl rfl dX11_overlay_1 ?_
  refine wN_V (As := [vI p1]) vm_X11_isPresent lk_X11_204 tT_343 rfl rfl (Nat.le_of_ble_eq_true rfl) (Nat.le_of_ble_eq_true rfl) (d' := d - 1) (by omega) dX11_overlay_2 hv (fun v9 h2 q3 => ?_)
  obtain ⟨z1, rfl, hS4, q3⟩ := q3
  refine wq_st (st' := [vI z1]) rfl ?_
  refine wq_if_eq 20 rfl dX11_overlay_5 (fun c5 => ?_) (fun c5 => ?_)
  · refine wq_sipush (z := -1001) (zlit rfl) rfl dX11_overlay_20 ?_
    exact wp_iret rfl dX11_overlay_23 (q3.1 c5)
  · refine wq_iload_n 2 rfl rfl dX11_overlay_8 ?_
    refine wq_i2l dX11_overlay_9 ?_
    refine wq_lconst (z := 0) (zlitL rfl) rfl dX11_overlay_10 ?_
    refine wq_ldc2_w (z := 5) (zlitL rfl) kc_X11_343 dX11_overlay_11 ?_
    refine wN_S (As := [vL p2, vL 0, vL 5]) md_X11_in ms_X11_in lk_X11_91 rfl rfl (Nat.le_of_ble_eq_true rfl) (Nat.le_of_ble_eq_true rfl) (d' := d - 1) (by omega) dX11_overlay_14 (q3.2 c5) (fun v9 h7 q8 => ?_)
    obtain ⟨z6, rfl, hS9, q8⟩ := q8
    refine wq_st (st' := [vI z6]) rfl ?_
    refine wq_if_ne 24 rfl dX11_overlay_17 (fun c10 => ?_) (fun c10 => ?_)
    · refine wq_aload_n 0 rfl rfl dX11_overlay_24 ?_
      refine wq_iload_n 1 rfl rfl dX11_overlay_25 ?_
      refine wN_V (As := [vI p1]) vm_X11_laysOut lk_X11_295 tT_343 rfl rfl (Nat.le_of_ble_eq_true rfl) (Nat.le_of_ble_eq_true rfl) (d' := d - 1) (by omega) dX11_overlay_26 (q8.1 c10) (fun v9 h12 q13 => ?_)
      obtain ⟨rfl, hS14, q13⟩ := q13
      refine wq_st (st' := []) rfl ?_
      refine wq_iload_n 2 rfl rfl dX11_overlay_29 ?_
      refine wq_tsw 91 [64, 70, 76, 81, 86] rfl rfl rfl dX11_overlay_30 (fun c15 => ?_) (fun j tg hj ej => ?_)
      · refine wq_aload_n 0 rfl rfl dX11_overlay_91 ?_
        refine wN_V (As := []) vm_X11_wrongs lk_X11_345 tT_343 rfl rfl (Nat.le_of_ble_eq_true rfl) (Nat.le_of_ble_eq_true rfl) (d' := d - 1) (by omega) dX11_overlay_92 (q13.1 c15) (fun v9 h17 q18 => ?_)
        obtain ⟨z16, rfl, hS19, q18⟩ := q18
        refine wq_st (st' := [vI z16]) rfl ?_
        exact wp_iret rfl dX11_overlay_95 q18
      · match j, hj, ej with
        | 0, hj, ej =>
          cases hj
          refine wq_aload_n 0 rfl rfl dX11_overlay_64 ?_
          refine wq_iload_n 1 rfl rfl dX11_overlay_65 ?_
          refine wN_V (As := [vI p1]) vm_X11_templateOf lk_X11_207 tT_343 rfl rfl (Nat.le_of_ble_eq_true rfl) (Nat.le_of_ble_eq_true rfl) (d' := d - 1) (by omega) dX11_overlay_66 (q13.2.1 ej) (fun v9 h21 q22 => ?_)
          obtain ⟨z20, rfl, hS23, q22⟩ := q22
          refine wq_st (st' := [vI z20]) rfl ?_
          exact wp_iret rfl dX11_overlay_69 q22
        | 1, hj, ej =>
          cases hj
          refine wq_aload_n 0 rfl rfl dX11_overlay_70 ?_
          refine wq_iload_n 1 rfl rfl dX11_overlay_71 ?_
          refine wN_V (As := [vI p1]) vm_X11_offsetOf lk_X11_275 tT_343 rfl rfl (Nat.le_of_ble_eq_true rfl) (Nat.le_of_ble_eq_true rfl) (d' := d - 1) (by omega) dX11_overlay_72 (q13.2.2.1 ej) (fun v9 h25 q26 => ?_)
          obtain ⟨z24, rfl, hS27, q26⟩ := q26
          refine wq_st (st' := [vI z24]) rfl ?_
          exact wp_iret rfl dX11_overlay_75 q26
        | 2, hj, ej =>
          cases hj
          refine wq_aload_n 0 rfl rfl dX11_overlay_76 ?_
          refine wq_getI fk_X11_235 tT_343 (fun _ _ _ => rfl) dX11_overlay_77 ?_
          exact wp_iret rfl dX11_overlay_80 (q13.2.2.2.1 ej)
        | 3, hj, ej =>
          cases hj
          refine wq_aload_n 0 rfl rfl dX11_overlay_81 ?_
          refine wq_getI fk_X11_238 tT_343 (fun _ _ _ => rfl) dX11_overlay_82 ?_
          exact wp_iret rfl dX11_overlay_85 (q13.2.2.2.2.1 ej)
        | 4, hj, ej =>
          cases hj
          refine wq_aload_n 0 rfl rfl dX11_overlay_86 ?_
          refine wq_getI fk_X11_241 tT_343 (fun _ _ _ => rfl) dX11_overlay_87 ?_
          exact wp_iret rfl dX11_overlay_90 (q13.2.2.2.2.2 ej)
        | j + 5, hj, ej => exact absurd hj (by simp)
    · refine wq_sipush (z := -1001) (zlit rfl) rfl dX11_overlay_20 ?_
      exact wp_iret rfl dX11_overlay_23 (q8.2 c10)
theorem dX11_hasField_0 : decode cX11_hasField 0 = .ok (.aload_n 0, 1) := by decide +kernel
theorem dX11_hasField_1 : decode cX11_hasField 1 = .ok (.iload_n 1, 1) := by decide +kernel
theorem dX11_hasField_2 : decode cX11_hasField 2 = .ok (.invokevirtual 204, 3) := by decide +kernel
theorem dX11_hasField_5 : decode cX11_hasField 5 = .ok (.ifCond .ne 5, 3) := by decide +kernel
theorem dX11_hasField_8 : decode cX11_hasField 8 = .ok (.iconst 0, 1) := by decide +kernel
theorem dX11_hasField_9 : decode cX11_hasField 9 = .ok (.ireturn, 1) := by decide +kernel
theorem dX11_hasField_10 : decode cX11_hasField 10 = .ok (.aload_n 0, 1) := by decide +kernel
theorem dX11_hasField_11 : decode cX11_hasField 11 = .ok (.iload_n 1, 1) := by decide +kernel
theorem dX11_hasField_12 : decode cX11_hasField 12 = .ok (.invokevirtual 295, 3) := by decide +kernel
theorem dX11_hasField_15 : decode cX11_hasField 15 = .ok (.iload_n 2, 1) := by decide +kernel
theorem dX11_hasField_16 : decode cX11_hasField 16 = .ok (.i2l, 1) := by decide +kernel
theorem dX11_hasField_17 : decode cX11_hasField 17 = .ok (.lconst 0, 1) := by decide +kernel
theorem dX11_hasField_18 : decode cX11_hasField 18 = .ok (.aload_n 0, 1) := by decide +kernel
theorem dX11_hasField_19 : decode cX11_hasField 19 = .ok (.getfield 235, 3) := by decide +kernel
theorem dX11_hasField_22 : decode cX11_hasField 22 = .ok (.iconst 1, 1) := by decide +kernel
theorem dX11_hasField_23 : decode cX11_hasField 23 = .ok (.isub, 1) := by decide +kernel
theorem dX11_hasField_24 : decode cX11_hasField 24 = .ok (.i2l, 1) := by decide +kernel
theorem dX11_hasField_25 : decode cX11_hasField 25 = .ok (.invokestatic 91, 3) := by decide +kernel
theorem dX11_hasField_28 : decode cX11_hasField 28 = .ok (.ireturn, 1) := by decide +kernel
theorem vc_X11_hasField_0 {G : zG} {d : Nat} {Q : Option zV → zHp → Prop} (p1 : Int) (p2 : Int) (h : zHp) (hS : zSh h) (hd : 5 ≤ d)  
    (hv : (wpN G (d - 1) M_X11_isPresent 0 (zar 0 [vR 343, vI p1]) [] h (qI (fun z1 h2 => zSh h2 ∧ ((z1 ≠ 0 → (wpN G (d - 1) M_X11_laysOut 0 (zar 0 [vR 343, vI p1]) [] h2 (qV (fun h7 => zSh h7 ∧ ((-2147483648 ≤ (gI h7 343 31) - 1 ∧ (gI h7 343 31) - 1 ≤ 2147483647) ∧ (wpN G (d - 1) M_X11_in 0 (zar 0 [vL p2, vL 0, vL ((gI h7 343 31) - 1)]) [] h7 (qI (fun z10 h11 => zSh h11 ∧ ((z10 = 0 ∨ z10 = 1) ∧ Q (some (vI z10)) h11))))))))) ∧ (z1 = 0 → Q (some (vI 0)) h2)))))) : wpN G d M_X11_hasField 0 [(0, vR 343), (1, vI p1), (2, vI p2)] [] h Q := by
  refine wq_aload_n 0 rfl rfl dX11_hasField_0 ?_
  refine wq_iload_n 1 rfl rfl dX11_hasField_1 ?_
  refine wN_V (As := [vI p1]) vm_X11_isPresent lk_X11_204 tT_343 rfl rfl (Nat.le_of_ble_eq_true rfl) (Nat.le_of_ble_eq_true rfl) (d' := d - 1) (by omega) dX11_hasField_2 hv (fun v9 h2 q3 => ?_)
  obtain ⟨z1, rfl, hS4, q3⟩ := q3
  refine wq_st (st' := [vI z1]) rfl ?_
  refine wq_if_ne 10 rfl dX11_hasField_5 (fun c5 => ?_) (fun c5 => ?_)
  · refine wq_aload_n 0 rfl rfl dX11_hasField_10 ?_
    refine wq_iload_n 1 rfl rfl dX11_hasField_11 ?_
    refine wN_V (As := [vI p1]) vm_X11_laysOut lk_X11_295 tT_343 rfl rfl (Nat.le_of_ble_eq_true rfl) (Nat.le_of_ble_eq_true rfl) (d' := d - 1) (by omega) dX11_hasField_12 (q3.1 c5) (fun v9 h7 q8 => ?_)
    obtain ⟨rfl, hS9, q8⟩ := q8
    refine wq_st (st' := []) rfl ?_
    refine wq_iload_n 2 rfl rfl dX11_hasField_15 ?_
    refine wq_i2l dX11_hasField_16 ?_
    refine wq_lconst (z := 0) (zlitL rfl) rfl dX11_hasField_17 ?_
    refine wq_aload_n 0 rfl rfl dX11_hasField_18 ?_
    refine wq_getI fk_X11_235 tT_343 (fun _ _ _ => rfl) dX11_hasField_19 ?_
    refine wq_iconst (z := 1) (zlit rfl) dX11_hasField_22 ?_
    refine wq_isub q8.1 dX11_hasField_23 ?_
    refine wq_i2l dX11_hasField_24 ?_
    refine wN_S (As := [vL p2, vL 0, vL ((gI h7 343 31) - 1)]) md_X11_in ms_X11_in lk_X11_91 rfl rfl (Nat.le_of_ble_eq_true rfl) (Nat.le_of_ble_eq_true rfl) (d' := d - 1) (by omega) dX11_hasField_25 q8.2 (fun v9 h11 q12 => ?_)
    obtain ⟨z10, rfl, hS13, q12⟩ := q12
    refine wq_st (st' := [vI z10]) rfl ?_
    exact wp_zret q12.1 rfl dX11_hasField_28 q12.2
  · refine wq_iconst (z := 0) (zlit rfl) dX11_hasField_8 ?_
    exact wp_zret (Or.inl rfl) rfl dX11_hasField_9 (q3.2 c5)
theorem dX11_partOf_0 : decode cX11_partOf 0 = .ok (.iload_n 2, 1) := by decide +kernel
theorem dX11_partOf_1 : decode cX11_partOf 1 = .ok (.tableswitch 81 0 5 #[39, 46, 53, 60, 67, 74], 39) := by decide +kernel
theorem dX11_partOf_40 : decode cX11_partOf 40 = .ok (.aload_n 0, 1) := by decide +kernel
theorem dX11_partOf_41 : decode cX11_partOf 41 = .ok (.getfield 40, 3) := by decide +kernel
theorem dX11_partOf_44 : decode cX11_partOf 44 = .ok (.iload_n 1, 1) := by decide +kernel
theorem dX11_partOf_45 : decode cX11_partOf 45 = .ok (.iaload, 1) := by decide +kernel
theorem dX11_partOf_46 : decode cX11_partOf 46 = .ok (.ireturn, 1) := by decide +kernel
theorem dX11_partOf_47 : decode cX11_partOf 47 = .ok (.aload_n 0, 1) := by decide +kernel
theorem dX11_partOf_48 : decode cX11_partOf 48 = .ok (.getfield 43, 3) := by decide +kernel
theorem dX11_partOf_51 : decode cX11_partOf 51 = .ok (.iload_n 1, 1) := by decide +kernel
theorem dX11_partOf_52 : decode cX11_partOf 52 = .ok (.iaload, 1) := by decide +kernel
theorem dX11_partOf_53 : decode cX11_partOf 53 = .ok (.ireturn, 1) := by decide +kernel
theorem dX11_partOf_54 : decode cX11_partOf 54 = .ok (.aload_n 0, 1) := by decide +kernel
theorem dX11_partOf_55 : decode cX11_partOf 55 = .ok (.getfield 46, 3) := by decide +kernel
theorem dX11_partOf_58 : decode cX11_partOf 58 = .ok (.iload_n 1, 1) := by decide +kernel
theorem dX11_partOf_59 : decode cX11_partOf 59 = .ok (.iaload, 1) := by decide +kernel
theorem dX11_partOf_60 : decode cX11_partOf 60 = .ok (.ireturn, 1) := by decide +kernel
theorem dX11_partOf_61 : decode cX11_partOf 61 = .ok (.aload_n 0, 1) := by decide +kernel
theorem dX11_partOf_62 : decode cX11_partOf 62 = .ok (.getfield 49, 3) := by decide +kernel
theorem dX11_partOf_65 : decode cX11_partOf 65 = .ok (.iload_n 1, 1) := by decide +kernel
theorem dX11_partOf_66 : decode cX11_partOf 66 = .ok (.iaload, 1) := by decide +kernel
theorem dX11_partOf_67 : decode cX11_partOf 67 = .ok (.ireturn, 1) := by decide +kernel
theorem dX11_partOf_68 : decode cX11_partOf 68 = .ok (.aload_n 0, 1) := by decide +kernel
theorem dX11_partOf_69 : decode cX11_partOf 69 = .ok (.getfield 52, 3) := by decide +kernel
theorem dX11_partOf_72 : decode cX11_partOf 72 = .ok (.iload_n 1, 1) := by decide +kernel
theorem dX11_partOf_73 : decode cX11_partOf 73 = .ok (.iaload, 1) := by decide +kernel
theorem dX11_partOf_74 : decode cX11_partOf 74 = .ok (.ireturn, 1) := by decide +kernel
theorem dX11_partOf_75 : decode cX11_partOf 75 = .ok (.aload_n 0, 1) := by decide +kernel
theorem dX11_partOf_76 : decode cX11_partOf 76 = .ok (.getfield 55, 3) := by decide +kernel
theorem dX11_partOf_79 : decode cX11_partOf 79 = .ok (.iload_n 1, 1) := by decide +kernel
theorem dX11_partOf_80 : decode cX11_partOf 80 = .ok (.iaload, 1) := by decide +kernel
theorem dX11_partOf_81 : decode cX11_partOf 81 = .ok (.ireturn, 1) := by decide +kernel
theorem dX11_partOf_82 : decode cX11_partOf 82 = .ok (.aload_n 0, 1) := by decide +kernel
theorem dX11_partOf_83 : decode cX11_partOf 83 = .ok (.getfield 58, 3) := by decide +kernel
theorem dX11_partOf_86 : decode cX11_partOf 86 = .ok (.iload_n 1, 1) := by decide +kernel
theorem dX11_partOf_87 : decode cX11_partOf 87 = .ok (.iaload, 1) := by decide +kernel
theorem dX11_partOf_88 : decode cX11_partOf 88 = .ok (.ireturn, 1) := by decide +kernel
theorem vc_X11_partOf_0 {G : zG} {d : Nat} {Q : Option zV → zHp → Prop} (p1 : Int) (p2 : Int) (h : zHp) (hS : zSh h) (hd : 0 ≤ d)  
    (hv : ((p2 < 0 ∨ 5 < p2 → (((0 : Int) ≤ p1 ∧ p1 < ((60 : Nat) : Int)) ∧ Q (some (vI (gI h 360 p1.toNat))) h)) ∧ (p2 = 0 + ((0 : Nat) : Int) → (((0 : Int) ≤ p1 ∧ p1 < ((60 : Nat) : Int)) ∧ Q (some (vI (gI h 354 p1.toNat))) h)) ∧ (p2 = 0 + ((1 : Nat) : Int) → (((0 : Int) ≤ p1 ∧ p1 < ((60 : Nat) : Int)) ∧ Q (some (vI (gI h 355 p1.toNat))) h)) ∧ (p2 = 0 + ((2 : Nat) : Int) → (((0 : Int) ≤ p1 ∧ p1 < ((60 : Nat) : Int)) ∧ Q (some (vI (gI h 356 p1.toNat))) h)) ∧ (p2 = 0 + ((3 : Nat) : Int) → (((0 : Int) ≤ p1 ∧ p1 < ((60 : Nat) : Int)) ∧ Q (some (vI (gI h 357 p1.toNat))) h)) ∧ (p2 = 0 + ((4 : Nat) : Int) → (((0 : Int) ≤ p1 ∧ p1 < ((60 : Nat) : Int)) ∧ Q (some (vI (gI h 358 p1.toNat))) h)) ∧ (p2 = 0 + ((5 : Nat) : Int) → (((0 : Int) ≤ p1 ∧ p1 < ((60 : Nat) : Int)) ∧ Q (some (vI (gI h 359 p1.toNat))) h)))) : wpN G d M_X11_partOf 0 [(0, vR 343), (1, vI p1), (2, vI p2)] [] h Q := by
  refine wq_iload_n 2 rfl rfl dX11_partOf_0 ?_
  refine wq_tsw 82 [40, 47, 54, 61, 68, 75] rfl rfl rfl dX11_partOf_1 (fun c1 => ?_) (fun j tg hj ej => ?_)
  · refine wq_aload_n 0 rfl rfl dX11_partOf_82 ?_
    refine wq_getR fk_X11_58 tT_343 (fun _ _ _ => rfl) (sh_11_29 hS) (by decide) dX11_partOf_83 ?_
    refine wq_iload_n 1 rfl rfl dX11_partOf_86 ?_
    refine wq_iald tT_360 (hv.1 c1).1.1 (hv.1 c1).1.2 dX11_partOf_87 ?_
    exact wp_iret rfl dX11_partOf_88 (hv.1 c1).2
  · match j, hj, ej with
    | 0, hj, ej =>
      cases hj
      refine wq_aload_n 0 rfl rfl dX11_partOf_40 ?_
      refine wq_getR fk_X11_40 tT_343 (fun _ _ _ => rfl) (sh_11_23 hS) (by decide) dX11_partOf_41 ?_
      refine wq_iload_n 1 rfl rfl dX11_partOf_44 ?_
      refine wq_iald tT_354 (hv.2.1 ej).1.1 (hv.2.1 ej).1.2 dX11_partOf_45 ?_
      exact wp_iret rfl dX11_partOf_46 (hv.2.1 ej).2
    | 1, hj, ej =>
      cases hj
      refine wq_aload_n 0 rfl rfl dX11_partOf_47 ?_
      refine wq_getR fk_X11_43 tT_343 (fun _ _ _ => rfl) (sh_11_24 hS) (by decide) dX11_partOf_48 ?_
      refine wq_iload_n 1 rfl rfl dX11_partOf_51 ?_
      refine wq_iald tT_355 (hv.2.2.1 ej).1.1 (hv.2.2.1 ej).1.2 dX11_partOf_52 ?_
      exact wp_iret rfl dX11_partOf_53 (hv.2.2.1 ej).2
    | 2, hj, ej =>
      cases hj
      refine wq_aload_n 0 rfl rfl dX11_partOf_54 ?_
      refine wq_getR fk_X11_46 tT_343 (fun _ _ _ => rfl) (sh_11_25 hS) (by decide) dX11_partOf_55 ?_
      refine wq_iload_n 1 rfl rfl dX11_partOf_58 ?_
      refine wq_iald tT_356 (hv.2.2.2.1 ej).1.1 (hv.2.2.2.1 ej).1.2 dX11_partOf_59 ?_
      exact wp_iret rfl dX11_partOf_60 (hv.2.2.2.1 ej).2
    | 3, hj, ej =>
      cases hj
      refine wq_aload_n 0 rfl rfl dX11_partOf_61 ?_
      refine wq_getR fk_X11_49 tT_343 (fun _ _ _ => rfl) (sh_11_26 hS) (by decide) dX11_partOf_62 ?_
      refine wq_iload_n 1 rfl rfl dX11_partOf_65 ?_
      refine wq_iald tT_357 (hv.2.2.2.2.1 ej).1.1 (hv.2.2.2.2.1 ej).1.2 dX11_partOf_66 ?_
      exact wp_iret rfl dX11_partOf_67 (hv.2.2.2.2.1 ej).2
    | 4, hj, ej =>
      cases hj
      refine wq_aload_n 0 rfl rfl dX11_partOf_68 ?_
      refine wq_getR fk_X11_52 tT_343 (fun _ _ _ => rfl) (sh_11_27 hS) (by decide) dX11_partOf_69 ?_
      refine wq_iload_n 1 rfl rfl dX11_partOf_72 ?_
      refine wq_iald tT_358 (hv.2.2.2.2.2.1 ej).1.1 (hv.2.2.2.2.2.1 ej).1.2 dX11_partOf_73 ?_
      exact wp_iret rfl dX11_partOf_74 (hv.2.2.2.2.2.1 ej).2
    | 5, hj, ej =>
      cases hj
      refine wq_aload_n 0 rfl rfl dX11_partOf_75 ?_
      refine wq_getR fk_X11_55 tT_343 (fun _ _ _ => rfl) (sh_11_28 hS) (by decide) dX11_partOf_76 ?_
      refine wq_iload_n 1 rfl rfl dX11_partOf_79 ?_
      refine wq_iald tT_359 (hv.2.2.2.2.2.2 ej).1.1 (hv.2.2.2.2.2.2 ej).1.2 dX11_partOf_80 ?_
      exact wp_iret rfl dX11_partOf_81 (hv.2.2.2.2.2.2 ej).2
    | j + 6, hj, ej => exact absurd hj (by simp)
theorem dX11_field_0 : decode cX11_field 0 = .ok (.aload_n 0, 1) := by decide +kernel
theorem dX11_field_1 : decode cX11_field 1 = .ok (.iload_n 1, 1) := by decide +kernel
theorem dX11_field_2 : decode cX11_field 2 = .ok (.iload_n 2, 1) := by decide +kernel
theorem dX11_field_3 : decode cX11_field 3 = .ok (.invokevirtual 348, 3) := by decide +kernel
theorem dX11_field_6 : decode cX11_field 6 = .ok (.ifCond .eq 24, 3) := by decide +kernel
theorem dX11_field_9 : decode cX11_field 9 = .ok (.iload_n 3, 1) := by decide +kernel
theorem dX11_field_10 : decode cX11_field 10 = .ok (.i2l, 1) := by decide +kernel
theorem dX11_field_11 : decode cX11_field 11 = .ok (.lconst 0, 1) := by decide +kernel
theorem dX11_field_12 : decode cX11_field 12 = .ok (.ldc2_w 352, 3) := by decide +kernel
theorem dX11_field_15 : decode cX11_field 15 = .ok (.invokestatic 91, 3) := by decide +kernel
theorem dX11_field_18 : decode cX11_field 18 = .ok (.ifCond .eq 12, 3) := by decide +kernel
theorem dX11_field_21 : decode cX11_field 21 = .ok (.aload_n 0, 1) := by decide +kernel
theorem dX11_field_22 : decode cX11_field 22 = .ok (.iload_n 2, 1) := by decide +kernel
theorem dX11_field_23 : decode cX11_field 23 = .ok (.iload_n 3, 1) := by decide +kernel
theorem dX11_field_24 : decode cX11_field 24 = .ok (.invokevirtual 354, 3) := by decide +kernel
theorem dX11_field_27 : decode cX11_field 27 = .ok (.goto 6, 3) := by decide +kernel
theorem dX11_field_30 : decode cX11_field 30 = .ok (.sipush (-1001), 3) := by decide +kernel
theorem dX11_field_33 : decode cX11_field 33 = .ok (.ireturn, 1) := by decide +kernel
theorem vc_X11_field_0 {G : zG} {d : Nat} {Q : Option zV → zHp → Prop} (p1 : Int) (p2 : Int) (p3 : Int) (h : zHp) (hS : zSh h) (hd : 6 ≤ d)  
    (hv : (wpN G (d - 1) M_X11_hasField 0 (zar 0 [vR 343, vI p1, vI p2]) [] h (qI (fun z1 h2 => zSh h2 ∧ ((z1 = 0 → Q (some (vI (-1001))) h2) ∧ (z1 ≠ 0 → (wpN G (d - 1) M_X11_in 0 (zar 0 [vL p3, vL 0, vL 6]) [] h2 (qI (fun z6 h7 => zSh h7 ∧ ((z6 = 0 → Q (some (vI (-1001))) h7) ∧ (z6 ≠ 0 → (wpN G (d - 1) M_X11_partOf 0 (zar 0 [vR 343, vI p2, vI p3]) [] h7 (qI (fun z11 h12 => zSh h12 ∧ Q (some (vI z11)) h12)))))))))))))) : wpN G d M_X11_field 0 [(0, vR 343), (1, vI p1), (2, vI p2), (3, vI p3)] [] h Q := by
  refine wq_aload_n 0 rfl rfl dX11_field_0 ?_
  refine wq_iload_n 1 rfl rfl dX11_field_1 ?_
  refine wq_iload_n 2 rfl rfl dX11_field_2 ?_
  refine wN_V (As := [vI p1, vI p2]) vm_X11_hasField lk_X11_348 tT_343 rfl rfl (Nat.le_of_ble_eq_true rfl) (Nat.le_of_ble_eq_true rfl) (d' := d - 1) (by omega) dX11_field_3 hv (fun v9 h2 q3 => ?_)
  obtain ⟨z1, rfl, hS4, q3⟩ := q3
  refine wq_st (st' := [vI z1]) rfl ?_
  refine wq_if_eq 30 rfl dX11_field_6 (fun c5 => ?_) (fun c5 => ?_)
  · refine wq_sipush (z := -1001) (zlit rfl) rfl dX11_field_30 ?_
    exact wp_iret rfl dX11_field_33 (q3.1 c5)
  · refine wq_iload_n 3 rfl rfl dX11_field_9 ?_
    refine wq_i2l dX11_field_10 ?_
    refine wq_lconst (z := 0) (zlitL rfl) rfl dX11_field_11 ?_
    refine wq_ldc2_w (z := 6) (zlitL rfl) kc_X11_352 dX11_field_12 ?_
    refine wN_S (As := [vL p3, vL 0, vL 6]) md_X11_in ms_X11_in lk_X11_91 rfl rfl (Nat.le_of_ble_eq_true rfl) (Nat.le_of_ble_eq_true rfl) (d' := d - 1) (by omega) dX11_field_15 (q3.2 c5) (fun v9 h7 q8 => ?_)
    obtain ⟨z6, rfl, hS9, q8⟩ := q8
    refine wq_st (st' := [vI z6]) rfl ?_
    refine wq_if_eq 30 rfl dX11_field_18 (fun c10 => ?_) (fun c10 => ?_)
    · refine wq_sipush (z := -1001) (zlit rfl) rfl dX11_field_30 ?_
      exact wp_iret rfl dX11_field_33 (q8.1 c10)
    · refine wq_aload_n 0 rfl rfl dX11_field_21 ?_
      refine wq_iload_n 2 rfl rfl dX11_field_22 ?_
      refine wq_iload_n 3 rfl rfl dX11_field_23 ?_
      refine wN_V (As := [vI p2, vI p3]) vm_X11_partOf lk_X11_354 tT_343 rfl rfl (Nat.le_of_ble_eq_true rfl) (Nat.le_of_ble_eq_true rfl) (d' := d - 1) (by omega) dX11_field_24 (q8.2 c10) (fun v9 h12 q13 => ?_)
      obtain ⟨z11, rfl, hS14, q13⟩ := q13
      refine wq_st (st' := [vI z11]) rfl ?_
      refine wq_goto 33 rfl dX11_field_27 ?_
      exact wp_iret rfl dX11_field_33 q13
theorem dX11_value_0 : decode cX11_value 0 = .ok (.aload_n 0, 1) := by decide +kernel
theorem dX11_value_1 : decode cX11_value 1 = .ok (.iload_n 1, 1) := by decide +kernel
theorem dX11_value_2 : decode cX11_value 2 = .ok (.iload_n 2, 1) := by decide +kernel
theorem dX11_value_3 : decode cX11_value 3 = .ok (.invokevirtual 348, 3) := by decide +kernel
theorem dX11_value_6 : decode cX11_value 6 = .ok (.ifCond .eq 11, 3) := by decide +kernel
theorem dX11_value_9 : decode cX11_value 9 = .ok (.aload_n 0, 1) := by decide +kernel
theorem dX11_value_10 : decode cX11_value 10 = .ok (.iload_n 2, 1) := by decide +kernel
theorem dX11_value_11 : decode cX11_value 11 = .ok (.invokevirtual 256, 3) := by decide +kernel
theorem dX11_value_14 : decode cX11_value 14 = .ok (.goto 6, 3) := by decide +kernel
theorem dX11_value_17 : decode cX11_value 17 = .ok (.ldc2_w 357, 3) := by decide +kernel
theorem dX11_value_20 : decode cX11_value 20 = .ok (.lreturn, 1) := by decide +kernel
theorem vc_X11_value_0 {G : zG} {d : Nat} {Q : Option zV → zHp → Prop} (p1 : Int) (p2 : Int) (h : zHp) (hS : zSh h) (hd : 6 ≤ d)  
    (hv : (wpN G (d - 1) M_X11_hasField 0 (zar 0 [vR 343, vI p1, vI p2]) [] h (qI (fun z1 h2 => zSh h2 ∧ ((z1 = 0 → Q (some (vL (-9223372036854775808))) h2) ∧ (z1 ≠ 0 → (wpN G (d - 1) M_X11_valueOf 0 (zar 0 [vR 343, vI p2]) [] h2 (qL (fun z6 h7 => zSh h7 ∧ Q (some (vL z6)) h7))))))))) : wpN G d M_X11_value 0 [(0, vR 343), (1, vI p1), (2, vI p2)] [] h Q := by
  refine wq_aload_n 0 rfl rfl dX11_value_0 ?_
  refine wq_iload_n 1 rfl rfl dX11_value_1 ?_
  refine wq_iload_n 2 rfl rfl dX11_value_2 ?_
  refine wN_V (As := [vI p1, vI p2]) vm_X11_hasField lk_X11_348 tT_343 rfl rfl (Nat.le_of_ble_eq_true rfl) (Nat.le_of_ble_eq_true rfl) (d' := d - 1) (by omega) dX11_value_3 hv (fun v9 h2 q3 => ?_)
  obtain ⟨z1, rfl, hS4, q3⟩ := q3
  refine wq_st (st' := [vI z1]) rfl ?_
  refine wq_if_eq 17 rfl dX11_value_6 (fun c5 => ?_) (fun c5 => ?_)
  · refine wq_ldc2_w (z := -9223372036854775808) (zlitL rfl) kc_X11_357 dX11_value_17 ?_
    exact wp_lret rfl dX11_value_20 (q3.1 c5)
  · refine wq_aload_n 0 rfl rfl dX11_value_9 ?_
    refine wq_iload_n 2 rfl rfl dX11_value_10 ?_
    refine wN_V (As := [vI p2]) vm_X11_valueOf lk_X11_256 tT_343 rfl rfl (Nat.le_of_ble_eq_true rfl) (Nat.le_of_ble_eq_true rfl) (d' := d - 1) (by omega) dX11_value_11 (q3.2 c5) (fun v9 h7 q8 => ?_)
    obtain ⟨z6, rfl, hS9, q8⟩ := q8
    refine wq_st (st' := [vL z6]) rfl ?_
    refine wq_goto 20 rfl dX11_value_14 ?_
    exact wp_lret rfl dX11_value_20 q8
theorem dX11_path_0 : decode cX11_path 0 = .ok (.aload_n 0, 1) := by decide +kernel
theorem dX11_path_1 : decode cX11_path 1 = .ok (.iload_n 1, 1) := by decide +kernel
theorem dX11_path_2 : decode cX11_path 2 = .ok (.iload_n 2, 1) := by decide +kernel
theorem dX11_path_3 : decode cX11_path 3 = .ok (.invokevirtual 348, 3) := by decide +kernel
theorem dX11_path_6 : decode cX11_path 6 = .ok (.ifCond .ne 7, 3) := by decide +kernel
theorem dX11_path_9 : decode cX11_path 9 = .ok (.sipush (-1001), 3) := by decide +kernel
theorem dX11_path_12 : decode cX11_path 12 = .ok (.ireturn, 1) := by decide +kernel
theorem dX11_path_13 : decode cX11_path 13 = .ok (.iload_n 3, 1) := by decide +kernel
theorem dX11_path_14 : decode cX11_path 14 = .ok (.i2l, 1) := by decide +kernel
theorem dX11_path_15 : decode cX11_path 15 = .ok (.lconst 0, 1) := by decide +kernel
theorem dX11_path_16 : decode cX11_path 16 = .ok (.aload_n 0, 1) := by decide +kernel
theorem dX11_path_17 : decode cX11_path 17 = .ok (.getfield 58, 3) := by decide +kernel
theorem dX11_path_20 : decode cX11_path 20 = .ok (.iload_n 2, 1) := by decide +kernel
theorem dX11_path_21 : decode cX11_path 21 = .ok (.iaload, 1) := by decide +kernel
theorem dX11_path_22 : decode cX11_path 22 = .ok (.iconst 1, 1) := by decide +kernel
theorem dX11_path_23 : decode cX11_path 23 = .ok (.isub, 1) := by decide +kernel
theorem dX11_path_24 : decode cX11_path 24 = .ok (.i2l, 1) := by decide +kernel
theorem dX11_path_25 : decode cX11_path 25 = .ok (.invokestatic 91, 3) := by decide +kernel
theorem dX11_path_28 : decode cX11_path 28 = .ok (.ifCond .eq 16, 3) := by decide +kernel
theorem dX11_path_31 : decode cX11_path 31 = .ok (.aload_n 0, 1) := by decide +kernel
theorem dX11_path_32 : decode cX11_path 32 = .ok (.getfield 61, 3) := by decide +kernel
theorem dX11_path_35 : decode cX11_path 35 = .ok (.iconst 4, 1) := by decide +kernel
theorem dX11_path_36 : decode cX11_path 36 = .ok (.iload_n 2, 1) := by decide +kernel
theorem dX11_path_37 : decode cX11_path 37 = .ok (.imul, 1) := by decide +kernel
theorem dX11_path_38 : decode cX11_path 38 = .ok (.iload_n 3, 1) := by decide +kernel
theorem dX11_path_39 : decode cX11_path 39 = .ok (.iadd, 1) := by decide +kernel
theorem dX11_path_40 : decode cX11_path 40 = .ok (.iaload, 1) := by decide +kernel
theorem dX11_path_41 : decode cX11_path 41 = .ok (.goto 6, 3) := by decide +kernel
theorem dX11_path_44 : decode cX11_path 44 = .ok (.sipush (-1009), 3) := by decide +kernel
theorem dX11_path_47 : decode cX11_path 47 = .ok (.ireturn, 1) := by decide +kernel
theorem vc_X11_path_0 {G : zG} {d : Nat} {Q : Option zV → zHp → Prop} (p1 : Int) (p2 : Int) (p3 : Int) (h : zHp) (hS : zSh h) (hd : 6 ≤ d)  
    (hv : (wpN G (d - 1) M_X11_hasField 0 (zar 0 [vR 343, vI p1, vI p2]) [] h (qI (fun z1 h2 => zSh h2 ∧ ((z1 ≠ 0 → (((0 : Int) ≤ p2 ∧ p2 < ((60 : Nat) : Int)) ∧ ((-2147483648 ≤ (gI h2 360 p2.toNat) - 1 ∧ (gI h2 360 p2.toNat) - 1 ≤ 2147483647) ∧ (wpN G (d - 1) M_X11_in 0 (zar 0 [vL p3, vL 0, vL ((gI h2 360 p2.toNat) - 1)]) [] h2 (qI (fun z6 h7 => zSh h7 ∧ ((z6 = 0 → Q (some (vI (-1009))) h7) ∧ (z6 ≠ 0 → ((-2147483648 ≤ 4 * p2 ∧ 4 * p2 ≤ 2147483647) ∧ ((-2147483648 ≤ (4 * p2) + p3 ∧ (4 * p2) + p3 ≤ 2147483647) ∧ (((0 : Int) ≤ ((4 * p2) + p3) ∧ ((4 * p2) + p3) < ((240 : Nat) : Int)) ∧ Q (some (vI (gI h7 361 ((4 * p2) + p3).toNat))) h7))))))))))) ∧ (z1 = 0 → Q (some (vI (-1001))) h2)))))) : wpN G d M_X11_path 0 [(0, vR 343), (1, vI p1), (2, vI p2), (3, vI p3)] [] h Q := by
  refine wq_aload_n 0 rfl rfl dX11_path_0 ?_
  refine wq_iload_n 1 rfl rfl dX11_path_1 ?_
  refine wq_iload_n 2 rfl rfl dX11_path_2 ?_
  refine wN_V (As := [vI p1, vI p2]) vm_X11_hasField lk_X11_348 tT_343 rfl rfl (Nat.le_of_ble_eq_true rfl) (Nat.le_of_ble_eq_true rfl) (d' := d - 1) (by omega) dX11_path_3 hv (fun v9 h2 q3 => ?_)
  obtain ⟨z1, rfl, hS4, q3⟩ := q3
  refine wq_st (st' := [vI z1]) rfl ?_
  refine wq_if_ne 13 rfl dX11_path_6 (fun c5 => ?_) (fun c5 => ?_)
  · refine wq_iload_n 3 rfl rfl dX11_path_13 ?_
    refine wq_i2l dX11_path_14 ?_
    refine wq_lconst (z := 0) (zlitL rfl) rfl dX11_path_15 ?_
    refine wq_aload_n 0 rfl rfl dX11_path_16 ?_
    refine wq_getR fk_X11_58 tT_343 (fun _ _ _ => rfl) (sh_11_29 hS4) (by decide) dX11_path_17 ?_
    refine wq_iload_n 2 rfl rfl dX11_path_20 ?_
    refine wq_iald tT_360 (q3.1 c5).1.1 (q3.1 c5).1.2 dX11_path_21 ?_
    refine wq_iconst (z := 1) (zlit rfl) dX11_path_22 ?_
    refine wq_isub (q3.1 c5).2.1 dX11_path_23 ?_
    refine wq_i2l dX11_path_24 ?_
    refine wN_S (As := [vL p3, vL 0, vL ((gI h2 360 p2.toNat) - 1)]) md_X11_in ms_X11_in lk_X11_91 rfl rfl (Nat.le_of_ble_eq_true rfl) (Nat.le_of_ble_eq_true rfl) (d' := d - 1) (by omega) dX11_path_25 (q3.1 c5).2.2 (fun v9 h7 q8 => ?_)
    obtain ⟨z6, rfl, hS9, q8⟩ := q8
    refine wq_st (st' := [vI z6]) rfl ?_
    refine wq_if_eq 44 rfl dX11_path_28 (fun c10 => ?_) (fun c10 => ?_)
    · refine wq_sipush (z := -1009) (zlit rfl) rfl dX11_path_44 ?_
      exact wp_iret rfl dX11_path_47 (q8.1 c10)
    · refine wq_aload_n 0 rfl rfl dX11_path_31 ?_
      refine wq_getR fk_X11_61 tT_343 (fun _ _ _ => rfl) (sh_11_30 hS9) (by decide) dX11_path_32 ?_
      refine wq_iconst (z := 4) (zlit rfl) dX11_path_35 ?_
      refine wq_iload_n 2 rfl rfl dX11_path_36 ?_
      refine wq_imul (q8.2 c10).1 dX11_path_37 ?_
      refine wq_iload_n 3 rfl rfl dX11_path_38 ?_
      refine wq_iadd (q8.2 c10).2.1 dX11_path_39 ?_
      refine wq_iald tT_361 (q8.2 c10).2.2.1.1 (q8.2 c10).2.2.1.2 dX11_path_40 ?_
      refine wq_goto 47 rfl dX11_path_41 ?_
      exact wp_iret rfl dX11_path_47 (q8.2 c10).2.2.2
  · refine wq_sipush (z := -1001) (zlit rfl) rfl dX11_path_9 ?_
    exact wp_iret rfl dX11_path_12 (q3.2 c5)
theorem dX11_fieldAt_0 : decode cX11_fieldAt 0 = .ok (.aload_n 0, 1) := by decide +kernel
theorem dX11_fieldAt_1 : decode cX11_fieldAt 1 = .ok (.iload_n 1, 1) := by decide +kernel
theorem dX11_fieldAt_2 : decode cX11_fieldAt 2 = .ok (.invokevirtual 204, 3) := by decide +kernel
theorem dX11_fieldAt_5 : decode cX11_fieldAt 5 = .ok (.ifCond .eq 19, 3) := by decide +kernel
theorem dX11_fieldAt_8 : decode cX11_fieldAt 8 = .ok (.iload_n 2, 1) := by decide +kernel
theorem dX11_fieldAt_9 : decode cX11_fieldAt 9 = .ok (.i2l, 1) := by decide +kernel
theorem dX11_fieldAt_10 : decode cX11_fieldAt 10 = .ok (.lconst 0, 1) := by decide +kernel
theorem dX11_fieldAt_11 : decode cX11_fieldAt 11 = .ok (.aload_n 0, 1) := by decide +kernel
theorem dX11_fieldAt_12 : decode cX11_fieldAt 12 = .ok (.invokevirtual 218, 3) := by decide +kernel
theorem dX11_fieldAt_15 : decode cX11_fieldAt 15 = .ok (.iconst 1, 1) := by decide +kernel
theorem dX11_fieldAt_16 : decode cX11_fieldAt 16 = .ok (.isub, 1) := by decide +kernel
theorem dX11_fieldAt_17 : decode cX11_fieldAt 17 = .ok (.i2l, 1) := by decide +kernel
theorem dX11_fieldAt_18 : decode cX11_fieldAt 18 = .ok (.invokestatic 91, 3) := by decide +kernel
theorem dX11_fieldAt_21 : decode cX11_fieldAt 21 = .ok (.ifCond .ne 7, 3) := by decide +kernel
theorem dX11_fieldAt_24 : decode cX11_fieldAt 24 = .ok (.sipush (-1001), 3) := by decide +kernel
theorem dX11_fieldAt_27 : decode cX11_fieldAt 27 = .ok (.ireturn, 1) := by decide +kernel
theorem dX11_fieldAt_28 : decode cX11_fieldAt 28 = .ok (.aload_n 0, 1) := by decide +kernel
theorem dX11_fieldAt_29 : decode cX11_fieldAt 29 = .ok (.iload_n 1, 1) := by decide +kernel
theorem dX11_fieldAt_30 : decode cX11_fieldAt 30 = .ok (.invokevirtual 295, 3) := by decide +kernel
theorem dX11_fieldAt_33 : decode cX11_fieldAt 33 = .ok (.iconst 0, 1) := by decide +kernel
theorem dX11_fieldAt_34 : decode cX11_fieldAt 34 = .ok (.istore_n 3, 1) := by decide +kernel
theorem dX11_fieldAt_35 : decode cX11_fieldAt 35 = .ok (.iload_n 3, 1) := by decide +kernel
theorem dX11_fieldAt_36 : decode cX11_fieldAt 36 = .ok (.aload_n 0, 1) := by decide +kernel
theorem dX11_fieldAt_37 : decode cX11_fieldAt 37 = .ok (.getfield 235, 3) := by decide +kernel
theorem dX11_fieldAt_40 : decode cX11_fieldAt 40 = .ok (.if_icmp .ge 42, 3) := by decide +kernel
theorem dX11_fieldAt_43 : decode cX11_fieldAt 43 = .ok (.iload_n 2, 1) := by decide +kernel
theorem dX11_fieldAt_44 : decode cX11_fieldAt 44 = .ok (.i2l, 1) := by decide +kernel
theorem dX11_fieldAt_45 : decode cX11_fieldAt 45 = .ok (.aload_n 0, 1) := by decide +kernel
theorem dX11_fieldAt_46 : decode cX11_fieldAt 46 = .ok (.getfield 40, 3) := by decide +kernel
theorem dX11_fieldAt_49 : decode cX11_fieldAt 49 = .ok (.iload_n 3, 1) := by decide +kernel
theorem dX11_fieldAt_50 : decode cX11_fieldAt 50 = .ok (.iaload, 1) := by decide +kernel
theorem dX11_fieldAt_51 : decode cX11_fieldAt 51 = .ok (.i2l, 1) := by decide +kernel
theorem dX11_fieldAt_52 : decode cX11_fieldAt 52 = .ok (.aload_n 0, 1) := by decide +kernel
theorem dX11_fieldAt_53 : decode cX11_fieldAt 53 = .ok (.getfield 40, 3) := by decide +kernel
theorem dX11_fieldAt_56 : decode cX11_fieldAt 56 = .ok (.iload_n 3, 1) := by decide +kernel
theorem dX11_fieldAt_57 : decode cX11_fieldAt 57 = .ok (.iaload, 1) := by decide +kernel
theorem dX11_fieldAt_58 : decode cX11_fieldAt 58 = .ok (.aload_n 0, 1) := by decide +kernel
theorem dX11_fieldAt_59 : decode cX11_fieldAt 59 = .ok (.getfield 43, 3) := by decide +kernel
theorem dX11_fieldAt_62 : decode cX11_fieldAt 62 = .ok (.iload_n 3, 1) := by decide +kernel
theorem dX11_fieldAt_63 : decode cX11_fieldAt 63 = .ok (.iaload, 1) := by decide +kernel
theorem dX11_fieldAt_64 : decode cX11_fieldAt 64 = .ok (.iadd, 1) := by decide +kernel
theorem dX11_fieldAt_65 : decode cX11_fieldAt 65 = .ok (.iconst 1, 1) := by decide +kernel
theorem dX11_fieldAt_66 : decode cX11_fieldAt 66 = .ok (.isub, 1) := by decide +kernel
theorem dX11_fieldAt_67 : decode cX11_fieldAt 67 = .ok (.i2l, 1) := by decide +kernel
theorem dX11_fieldAt_68 : decode cX11_fieldAt 68 = .ok (.invokestatic 91, 3) := by decide +kernel
theorem dX11_fieldAt_71 : decode cX11_fieldAt 71 = .ok (.ifCond .eq 5, 3) := by decide +kernel
theorem dX11_fieldAt_74 : decode cX11_fieldAt 74 = .ok (.iload_n 3, 1) := by decide +kernel
theorem dX11_fieldAt_75 : decode cX11_fieldAt 75 = .ok (.ireturn, 1) := by decide +kernel
theorem dX11_fieldAt_76 : decode cX11_fieldAt 76 = .ok (.iinc 3 1, 3) := by decide +kernel
theorem dX11_fieldAt_79 : decode cX11_fieldAt 79 = .ok (.goto (-44), 3) := by decide +kernel
theorem dX11_fieldAt_82 : decode cX11_fieldAt 82 = .ok (.sipush (-1009), 3) := by decide +kernel
theorem dX11_fieldAt_85 : decode cX11_fieldAt 85 = .ok (.ireturn, 1) := by decide +kernel
theorem vc_X11_fieldAt_0 {G : zG} {d : Nat} {Q : Option zV → zHp → Prop} (p1 : Int) (p2 : Int) (h : zHp) (hS : zSh h) (hd : 5 ≤ d) (I_35 : Int → Int → Int → zHp → Prop) (hI_35 : ∀ (y1 : Int) (y2 : Int) (y3 : Int) (h' : zHp), I_35 y1 y2 y3 h' → wpN G d M_X11_fieldAt 35 [(0, vR 343), (1, vI y1), (2, vI y2), (3, vI y3)] [] h' Q) 
    (hv : (wpN G (d - 1) M_X11_isPresent 0 (zar 0 [vR 343, vI p1]) [] h (qI (fun z1 h2 => zSh h2 ∧ ((z1 = 0 → Q (some (vI (-1001))) h2) ∧ (z1 ≠ 0 → (wpN G (d - 1) M_X11_size 0 (zar 0 [vR 343]) [] h2 (qI (fun z6 h7 => zSh h7 ∧ ((-2147483648 ≤ z6 - 1 ∧ z6 - 1 ≤ 2147483647) ∧ (wpN G (d - 1) M_X11_in 0 (zar 0 [vL p2, vL 0, vL (z6 - 1)]) [] h7 (qI (fun z10 h11 => zSh h11 ∧ ((z10 ≠ 0 → (wpN G (d - 1) M_X11_laysOut 0 (zar 0 [vR 343, vI p1]) [] h11 (qV (fun h16 => zSh h16 ∧ (zSh h16 → I_35 p1 p2 0 h16))))) ∧ (z10 = 0 → Q (some (vI (-1001))) h11))))))))))))))) : wpN G d M_X11_fieldAt 0 [(0, vR 343), (1, vI p1), (2, vI p2)] [] h Q := by
  refine wq_aload_n 0 rfl rfl dX11_fieldAt_0 ?_
  refine wq_iload_n 1 rfl rfl dX11_fieldAt_1 ?_
  refine wN_V (As := [vI p1]) vm_X11_isPresent lk_X11_204 tT_343 rfl rfl (Nat.le_of_ble_eq_true rfl) (Nat.le_of_ble_eq_true rfl) (d' := d - 1) (by omega) dX11_fieldAt_2 hv (fun v9 h2 q3 => ?_)
  obtain ⟨z1, rfl, hS4, q3⟩ := q3
  refine wq_st (st' := [vI z1]) rfl ?_
  refine wq_if_eq 24 rfl dX11_fieldAt_5 (fun c5 => ?_) (fun c5 => ?_)
  · refine wq_sipush (z := -1001) (zlit rfl) rfl dX11_fieldAt_24 ?_
    exact wp_iret rfl dX11_fieldAt_27 (q3.1 c5)
  · refine wq_iload_n 2 rfl rfl dX11_fieldAt_8 ?_
    refine wq_i2l dX11_fieldAt_9 ?_
    refine wq_lconst (z := 0) (zlitL rfl) rfl dX11_fieldAt_10 ?_
    refine wq_aload_n 0 rfl rfl dX11_fieldAt_11 ?_
    refine wN_V (As := []) vm_X11_size lk_X11_218 tT_343 rfl rfl (Nat.le_of_ble_eq_true rfl) (Nat.le_of_ble_eq_true rfl) (d' := d - 1) (by omega) dX11_fieldAt_12 (q3.2 c5) (fun v9 h7 q8 => ?_)
    obtain ⟨z6, rfl, hS9, q8⟩ := q8
    refine wq_st (st' := [vI z6, vL 0, vL p2]) rfl ?_
    refine wq_iconst (z := 1) (zlit rfl) dX11_fieldAt_15 ?_
    refine wq_isub q8.1 dX11_fieldAt_16 ?_
    refine wq_i2l dX11_fieldAt_17 ?_
    refine wN_S (As := [vL p2, vL 0, vL (z6 - 1)]) md_X11_in ms_X11_in lk_X11_91 rfl rfl (Nat.le_of_ble_eq_true rfl) (Nat.le_of_ble_eq_true rfl) (d' := d - 1) (by omega) dX11_fieldAt_18 q8.2 (fun v9 h11 q12 => ?_)
    obtain ⟨z10, rfl, hS13, q12⟩ := q12
    refine wq_st (st' := [vI z10]) rfl ?_
    refine wq_if_ne 28 rfl dX11_fieldAt_21 (fun c14 => ?_) (fun c14 => ?_)
    · refine wq_aload_n 0 rfl rfl dX11_fieldAt_28 ?_
      refine wq_iload_n 1 rfl rfl dX11_fieldAt_29 ?_
      refine wN_V (As := [vI p1]) vm_X11_laysOut lk_X11_295 tT_343 rfl rfl (Nat.le_of_ble_eq_true rfl) (Nat.le_of_ble_eq_true rfl) (d' := d - 1) (by omega) dX11_fieldAt_30 (q12.1 c14) (fun v9 h16 q17 => ?_)
      obtain ⟨rfl, hS18, q17⟩ := q17
      refine wq_st (st' := []) rfl ?_
      refine wq_iconst (z := 0) (zlit rfl) dX11_fieldAt_33 ?_
      refine wq_istore_n (ls' := [(0, vR 343), (1, vI p1), (2, vI p2), (3, vI 0)]) rfl (by decide) rfl dX11_fieldAt_34 ?_
      exact wq_pick [0, 1, 2, 3] rfl (hI_35 p1 p2 0 h16 (q17 hS18))
    · refine wq_sipush (z := -1001) (zlit rfl) rfl dX11_fieldAt_24 ?_
      exact wp_iret rfl dX11_fieldAt_27 (q12.2 c14)
theorem vc_X11_fieldAt_35 {G : zG} {d : Nat} {Q : Option zV → zHp → Prop} (y1 : Int) (y2 : Int) (y3 : Int) (h : zHp) (hS : zSh h) (hd : 5 ≤ d) (I_35 : Int → Int → Int → zHp → Prop) (hI_35 : ∀ (y1 : Int) (y2 : Int) (y3 : Int) (h' : zHp), I_35 y1 y2 y3 h' → wpN G d M_X11_fieldAt 35 [(0, vR 343), (1, vI y1), (2, vI y2), (3, vI y3)] [] h' Q) 
    (hv : (((gI h 343 31) ≤ y3 → Q (some (vI (-1009))) h) ∧ (y3 < (gI h 343 31) → (((0 : Int) ≤ y3 ∧ y3 < ((60 : Nat) : Int)) ∧ (((0 : Int) ≤ y3 ∧ y3 < ((60 : Nat) : Int)) ∧ (((0 : Int) ≤ y3 ∧ y3 < ((60 : Nat) : Int)) ∧ ((-2147483648 ≤ (gI h 354 y3.toNat) + (gI h 355 y3.toNat) ∧ (gI h 354 y3.toNat) + (gI h 355 y3.toNat) ≤ 2147483647) ∧ ((-2147483648 ≤ ((gI h 354 y3.toNat) + (gI h 355 y3.toNat)) - 1 ∧ ((gI h 354 y3.toNat) + (gI h 355 y3.toNat)) - 1 ≤ 2147483647) ∧ (wpN G (d - 1) M_X11_in 0 (zar 0 [vL y2, vL (gI h 354 y3.toNat), vL (((gI h 354 y3.toNat) + (gI h 355 y3.toNat)) - 1)]) [] h (qI (fun z2 h3 => zSh h3 ∧ ((z2 = 0 → ((-2147483648 ≤ y3 + 1 ∧ y3 + 1 ≤ 2147483647) ∧ ∀ x7 : Int, x7 = y3 + 1 → (zSh h3 → I_35 y1 y2 x7 h3))) ∧ (z2 ≠ 0 → Q (some (vI y3)) h3))))))))))))) : wpN G d M_X11_fieldAt 35 [(0, vR 343), (1, vI y1), (2, vI y2), (3, vI y3)] [] h Q := by
  refine wq_iload_n 3 rfl rfl dX11_fieldAt_35 ?_
  refine wq_aload_n 0 rfl rfl dX11_fieldAt_36 ?_
  refine wq_getI fk_X11_235 tT_343 (fun _ _ _ => rfl) dX11_fieldAt_37 ?_
  refine wq_icmp_ge 82 rfl dX11_fieldAt_40 (fun c1 => ?_) (fun c1 => ?_)
  · refine wq_sipush (z := -1009) (zlit rfl) rfl dX11_fieldAt_82 ?_
    exact wp_iret rfl dX11_fieldAt_85 (hv.1 c1)
  · refine wq_iload_n 2 rfl rfl dX11_fieldAt_43 ?_
    refine wq_i2l dX11_fieldAt_44 ?_
    refine wq_aload_n 0 rfl rfl dX11_fieldAt_45 ?_
    refine wq_getR fk_X11_40 tT_343 (fun _ _ _ => rfl) (sh_11_23 hS) (by decide) dX11_fieldAt_46 ?_
    refine wq_iload_n 3 rfl rfl dX11_fieldAt_49 ?_
    refine wq_iald tT_354 (hv.2 c1).1.1 (hv.2 c1).1.2 dX11_fieldAt_50 ?_
    refine wq_i2l dX11_fieldAt_51 ?_
    refine wq_aload_n 0 rfl rfl dX11_fieldAt_52 ?_
    refine wq_getR fk_X11_40 tT_343 (fun _ _ _ => rfl) (sh_11_23 hS) (by decide) dX11_fieldAt_53 ?_
    refine wq_iload_n 3 rfl rfl dX11_fieldAt_56 ?_
    refine wq_iald tT_354 (hv.2 c1).2.1.1 (hv.2 c1).2.1.2 dX11_fieldAt_57 ?_
    refine wq_aload_n 0 rfl rfl dX11_fieldAt_58 ?_
    refine wq_getR fk_X11_43 tT_343 (fun _ _ _ => rfl) (sh_11_24 hS) (by decide) dX11_fieldAt_59 ?_
    refine wq_iload_n 3 rfl rfl dX11_fieldAt_62 ?_
    refine wq_iald tT_355 (hv.2 c1).2.2.1.1 (hv.2 c1).2.2.1.2 dX11_fieldAt_63 ?_
    refine wq_iadd (hv.2 c1).2.2.2.1 dX11_fieldAt_64 ?_
    refine wq_iconst (z := 1) (zlit rfl) dX11_fieldAt_65 ?_
    refine wq_isub (hv.2 c1).2.2.2.2.1 dX11_fieldAt_66 ?_
    refine wq_i2l dX11_fieldAt_67 ?_
    refine wN_S (As := [vL y2, vL (gI h 354 y3.toNat), vL (((gI h 354 y3.toNat) + (gI h 355 y3.toNat)) - 1)]) md_X11_in ms_X11_in lk_X11_91 rfl rfl (Nat.le_of_ble_eq_true rfl) (Nat.le_of_ble_eq_true rfl) (d' := d - 1) (by omega) dX11_fieldAt_68 (hv.2 c1).2.2.2.2.2 (fun v9 h3 q4 => ?_)
    obtain ⟨z2, rfl, hS5, q4⟩ := q4
    refine wq_st (st' := [vI z2]) rfl ?_
    refine wq_if_eq 76 rfl dX11_fieldAt_71 (fun c6 => ?_) (fun c6 => ?_)
    · refine z_nm (y3 + 1) (fun x7 e8 => ?_)
      refine wq_iinc (y := x7) (ls' := [(0, vR 343), (1, vI y1), (2, vI y2), (3, vI x7)]) 3 rfl e8.symm (by rw [e8]; exact (q4.1 c6).1) (by decide) rfl dX11_fieldAt_76 ?_
      refine wq_goto 35 rfl dX11_fieldAt_79 ?_
      exact wq_pick [0, 1, 2, 3] rfl (hI_35 y1 y2 x7 h3 (((q4.1 c6).2 x7 e8) hS5))
    · refine wq_iload_n 3 rfl rfl dX11_fieldAt_74 ?_
      exact wp_iret rfl dX11_fieldAt_75 (q4.2 c6)
theorem dX11_counterpart_0 : decode cX11_counterpart 0 = .ok (.aload_n 0, 1) := by decide +kernel
theorem dX11_counterpart_1 : decode cX11_counterpart 1 = .ok (.iload_n 1, 1) := by decide +kernel
theorem dX11_counterpart_2 : decode cX11_counterpart 2 = .ok (.iload_n 2, 1) := by decide +kernel
theorem dX11_counterpart_3 : decode cX11_counterpart 3 = .ok (.invokevirtual 348, 3) := by decide +kernel
theorem dX11_counterpart_6 : decode cX11_counterpart 6 = .ok (.ifCond .eq 11, 3) := by decide +kernel
theorem dX11_counterpart_9 : decode cX11_counterpart 9 = .ok (.aload_n 0, 1) := by decide +kernel
theorem dX11_counterpart_10 : decode cX11_counterpart 10 = .ok (.iload_n 3, 1) := by decide +kernel
theorem dX11_counterpart_11 : decode cX11_counterpart 11 = .ok (.invokevirtual 204, 3) := by decide +kernel
theorem dX11_counterpart_14 : decode cX11_counterpart 14 = .ok (.ifCond .ne 7, 3) := by decide +kernel
theorem dX11_counterpart_17 : decode cX11_counterpart 17 = .ok (.sipush (-1001), 3) := by decide +kernel
theorem dX11_counterpart_20 : decode cX11_counterpart 20 = .ok (.ireturn, 1) := by decide +kernel
theorem dX11_counterpart_21 : decode cX11_counterpart 21 = .ok (.aload_n 0, 1) := by decide +kernel
theorem dX11_counterpart_22 : decode cX11_counterpart 22 = .ok (.getfield 58, 3) := by decide +kernel
theorem dX11_counterpart_25 : decode cX11_counterpart 25 = .ok (.iload_n 2, 1) := by decide +kernel
theorem dX11_counterpart_26 : decode cX11_counterpart 26 = .ok (.iaload, 1) := by decide +kernel
theorem dX11_counterpart_27 : decode cX11_counterpart 27 = .ok (.istore 4, 2) := by decide +kernel
theorem dX11_counterpart_29 : decode cX11_counterpart 29 = .ok (.iconst 0, 1) := by decide +kernel
theorem dX11_counterpart_30 : decode cX11_counterpart 30 = .ok (.istore 5, 2) := by decide +kernel
theorem dX11_counterpart_32 : decode cX11_counterpart 32 = .ok (.iload 5, 2) := by decide +kernel
theorem dX11_counterpart_34 : decode cX11_counterpart 34 = .ok (.iload 4, 2) := by decide +kernel
theorem dX11_counterpart_36 : decode cX11_counterpart 36 = .ok (.if_icmp .ge 27, 3) := by decide +kernel
theorem dX11_counterpart_39 : decode cX11_counterpart 39 = .ok (.aload_n 0, 1) := by decide +kernel
theorem dX11_counterpart_40 : decode cX11_counterpart 40 = .ok (.getfield 83, 3) := by decide +kernel
theorem dX11_counterpart_43 : decode cX11_counterpart 43 = .ok (.iload 5, 2) := by decide +kernel
theorem dX11_counterpart_45 : decode cX11_counterpart 45 = .ok (.aload_n 0, 1) := by decide +kernel
theorem dX11_counterpart_46 : decode cX11_counterpart 46 = .ok (.getfield 61, 3) := by decide +kernel
theorem dX11_counterpart_49 : decode cX11_counterpart 49 = .ok (.iconst 4, 1) := by decide +kernel
theorem dX11_counterpart_50 : decode cX11_counterpart 50 = .ok (.iload_n 2, 1) := by decide +kernel
theorem dX11_counterpart_51 : decode cX11_counterpart 51 = .ok (.imul, 1) := by decide +kernel
theorem dX11_counterpart_52 : decode cX11_counterpart 52 = .ok (.iload 5, 2) := by decide +kernel
theorem dX11_counterpart_54 : decode cX11_counterpart 54 = .ok (.iadd, 1) := by decide +kernel
theorem dX11_counterpart_55 : decode cX11_counterpart 55 = .ok (.iaload, 1) := by decide +kernel
theorem dX11_counterpart_56 : decode cX11_counterpart 56 = .ok (.iastore, 1) := by decide +kernel
theorem dX11_counterpart_57 : decode cX11_counterpart 57 = .ok (.iinc 5 1, 3) := by decide +kernel
theorem dX11_counterpart_60 : decode cX11_counterpart 60 = .ok (.goto (-28), 3) := by decide +kernel
theorem dX11_counterpart_63 : decode cX11_counterpart 63 = .ok (.aload_n 0, 1) := by decide +kernel
theorem dX11_counterpart_64 : decode cX11_counterpart 64 = .ok (.iload_n 3, 1) := by decide +kernel
theorem dX11_counterpart_65 : decode cX11_counterpart 65 = .ok (.invokevirtual 295, 3) := by decide +kernel
theorem dX11_counterpart_68 : decode cX11_counterpart 68 = .ok (.iconst 0, 1) := by decide +kernel
theorem dX11_counterpart_69 : decode cX11_counterpart 69 = .ok (.istore 5, 2) := by decide +kernel
theorem dX11_counterpart_71 : decode cX11_counterpart 71 = .ok (.iload 5, 2) := by decide +kernel
theorem dX11_counterpart_73 : decode cX11_counterpart 73 = .ok (.aload_n 0, 1) := by decide +kernel
theorem dX11_counterpart_74 : decode cX11_counterpart 74 = .ok (.getfield 235, 3) := by decide +kernel
theorem dX11_counterpart_77 : decode cX11_counterpart 77 = .ok (.if_icmp .ge 86, 3) := by decide +kernel
theorem dX11_counterpart_80 : decode cX11_counterpart 80 = .ok (.aload_n 0, 1) := by decide +kernel
theorem dX11_counterpart_81 : decode cX11_counterpart 81 = .ok (.getfield 58, 3) := by decide +kernel
theorem dX11_counterpart_84 : decode cX11_counterpart 84 = .ok (.iload 5, 2) := by decide +kernel
theorem dX11_counterpart_86 : decode cX11_counterpart 86 = .ok (.iaload, 1) := by decide +kernel
theorem dX11_counterpart_87 : decode cX11_counterpart 87 = .ok (.iload 4, 2) := by decide +kernel
theorem dX11_counterpart_89 : decode cX11_counterpart 89 = .ok (.if_icmp .ne 7, 3) := by decide +kernel
theorem dX11_counterpart_92 : decode cX11_counterpart 92 = .ok (.iconst 1, 1) := by decide +kernel
theorem dX11_counterpart_93 : decode cX11_counterpart 93 = .ok (.goto 4, 3) := by decide +kernel
theorem dX11_counterpart_96 : decode cX11_counterpart 96 = .ok (.iconst 0, 1) := by decide +kernel
theorem dX11_counterpart_97 : decode cX11_counterpart 97 = .ok (.istore 6, 2) := by decide +kernel
theorem dX11_counterpart_99 : decode cX11_counterpart 99 = .ok (.iconst 0, 1) := by decide +kernel
theorem dX11_counterpart_100 : decode cX11_counterpart 100 = .ok (.istore 7, 2) := by decide +kernel
theorem dX11_counterpart_102 : decode cX11_counterpart 102 = .ok (.iload 7, 2) := by decide +kernel
theorem dX11_counterpart_104 : decode cX11_counterpart 104 = .ok (.iload 4, 2) := by decide +kernel
theorem dX11_counterpart_106 : decode cX11_counterpart 106 = .ok (.if_icmp .ge 43, 3) := by decide +kernel
theorem dX11_counterpart_109 : decode cX11_counterpart 109 = .ok (.iload 6, 2) := by decide +kernel
theorem dX11_counterpart_111 : decode cX11_counterpart 111 = .ok (.ifCond .eq 38, 3) := by decide +kernel
theorem dX11_counterpart_114 : decode cX11_counterpart 114 = .ok (.aload_n 0, 1) := by decide +kernel
theorem dX11_counterpart_115 : decode cX11_counterpart 115 = .ok (.getfield 61, 3) := by decide +kernel
theorem dX11_counterpart_118 : decode cX11_counterpart 118 = .ok (.iconst 4, 1) := by decide +kernel
theorem dX11_counterpart_119 : decode cX11_counterpart 119 = .ok (.iload 5, 2) := by decide +kernel
theorem dX11_counterpart_121 : decode cX11_counterpart 121 = .ok (.imul, 1) := by decide +kernel
theorem dX11_counterpart_122 : decode cX11_counterpart 122 = .ok (.iload 7, 2) := by decide +kernel
theorem dX11_counterpart_124 : decode cX11_counterpart 124 = .ok (.iadd, 1) := by decide +kernel
theorem dX11_counterpart_125 : decode cX11_counterpart 125 = .ok (.iaload, 1) := by decide +kernel
theorem dX11_counterpart_126 : decode cX11_counterpart 126 = .ok (.aload_n 0, 1) := by decide +kernel
theorem dX11_counterpart_127 : decode cX11_counterpart 127 = .ok (.getfield 83, 3) := by decide +kernel
theorem dX11_counterpart_130 : decode cX11_counterpart 130 = .ok (.iload 7, 2) := by decide +kernel
theorem dX11_counterpart_132 : decode cX11_counterpart 132 = .ok (.iaload, 1) := by decide +kernel
theorem dX11_counterpart_133 : decode cX11_counterpart 133 = .ok (.if_icmp .ne 7, 3) := by decide +kernel
theorem dX11_counterpart_136 : decode cX11_counterpart 136 = .ok (.iconst 1, 1) := by decide +kernel
theorem dX11_counterpart_137 : decode cX11_counterpart 137 = .ok (.goto 4, 3) := by decide +kernel
theorem dX11_counterpart_140 : decode cX11_counterpart 140 = .ok (.iconst 0, 1) := by decide +kernel
theorem dX11_counterpart_141 : decode cX11_counterpart 141 = .ok (.istore 6, 2) := by decide +kernel
theorem dX11_counterpart_143 : decode cX11_counterpart 143 = .ok (.iinc 7 1, 3) := by decide +kernel
theorem dX11_counterpart_146 : decode cX11_counterpart 146 = .ok (.goto (-44), 3) := by decide +kernel
theorem dX11_counterpart_149 : decode cX11_counterpart 149 = .ok (.iload 6, 2) := by decide +kernel
theorem dX11_counterpart_151 : decode cX11_counterpart 151 = .ok (.ifCond .eq 6, 3) := by decide +kernel
theorem dX11_counterpart_154 : decode cX11_counterpart 154 = .ok (.iload 5, 2) := by decide +kernel
theorem dX11_counterpart_156 : decode cX11_counterpart 156 = .ok (.ireturn, 1) := by decide +kernel
theorem dX11_counterpart_157 : decode cX11_counterpart 157 = .ok (.iinc 5 1, 3) := by decide +kernel
theorem dX11_counterpart_160 : decode cX11_counterpart 160 = .ok (.goto (-89), 3) := by decide +kernel
theorem dX11_counterpart_163 : decode cX11_counterpart 163 = .ok (.sipush (-1009), 3) := by decide +kernel
theorem dX11_counterpart_166 : decode cX11_counterpart 166 = .ok (.ireturn, 1) := by decide +kernel
theorem vc_X11_counterpart_0 {G : zG} {d : Nat} {Q : Option zV → zHp → Prop} (p1 : Int) (p2 : Int) (p3 : Int) (h : zHp) (hS : zSh h) (hd : 6 ≤ d) (I_32 : Int → Int → Int → Int → Int → zHp → Prop) (hI_32 : ∀ (y1 : Int) (y2 : Int) (y3 : Int) (y4 : Int) (y5 : Int) (h' : zHp), I_32 y1 y2 y3 y4 y5 h' → wpN G d M_X11_counterpart 32 [(0, vR 343), (1, vI y1), (2, vI y2), (3, vI y3), (4, vI y4), (5, vI y5)] [] h' Q) 
    (hv : (wpN G (d - 1) M_X11_hasField 0 (zar 0 [vR 343, vI p1, vI p2]) [] h (qI (fun z1 h2 => zSh h2 ∧ ((z1 = 0 → Q (some (vI (-1001))) h2) ∧ (z1 ≠ 0 → (wpN G (d - 1) M_X11_isPresent 0 (zar 0 [vR 343, vI p3]) [] h2 (qI (fun z6 h7 => zSh h7 ∧ ((z6 ≠ 0 → (((0 : Int) ≤ p2 ∧ p2 < ((60 : Nat) : Int)) ∧ (∀ x11 : Int, x11 = (gI h7 360 p2.toNat) → (zSh h7 → I_32 p1 p2 p3 x11 0 h7)))) ∧ (z6 = 0 → Q (some (vI (-1001))) h7))))))))))) : wpN G d M_X11_counterpart 0 [(0, vR 343), (1, vI p1), (2, vI p2), (3, vI p3)] [] h Q := by
  refine wq_aload_n 0 rfl rfl dX11_counterpart_0 ?_
  refine wq_iload_n 1 rfl rfl dX11_counterpart_1 ?_
  refine wq_iload_n 2 rfl rfl dX11_counterpart_2 ?_
  refine wN_V (As := [vI p1, vI p2]) vm_X11_hasField lk_X11_348 tT_343 rfl rfl (Nat.le_of_ble_eq_true rfl) (Nat.le_of_ble_eq_true rfl) (d' := d - 1) (by omega) dX11_counterpart_3 hv (fun v9 h2 q3 => ?_)
  obtain ⟨z1, rfl, hS4, q3⟩ := q3
  refine wq_st (st' := [vI z1]) rfl ?_
  refine wq_if_eq 17 rfl dX11_counterpart_6 (fun c5 => ?_) (fun c5 => ?_)
  · refine wq_sipush (z := -1001) (zlit rfl) rfl dX11_counterpart_17 ?_
    exact wp_iret rfl dX11_counterpart_20 (q3.1 c5)
  · refine wq_aload_n 0 rfl rfl dX11_counterpart_9 ?_
    refine wq_iload_n 3 rfl rfl dX11_counterpart_10 ?_
    refine wN_V (As := [vI p3]) vm_X11_isPresent lk_X11_204 tT_343 rfl rfl (Nat.le_of_ble_eq_true rfl) (Nat.le_of_ble_eq_true rfl) (d' := d - 1) (by omega) dX11_counterpart_11 (q3.2 c5) (fun v9 h7 q8 => ?_)
    obtain ⟨z6, rfl, hS9, q8⟩ := q8
    refine wq_st (st' := [vI z6]) rfl ?_
    refine wq_if_ne 21 rfl dX11_counterpart_14 (fun c10 => ?_) (fun c10 => ?_)
    · refine wq_aload_n 0 rfl rfl dX11_counterpart_21 ?_
      refine wq_getR fk_X11_58 tT_343 (fun _ _ _ => rfl) (sh_11_29 hS9) (by decide) dX11_counterpart_22 ?_
      refine wq_iload_n 2 rfl rfl dX11_counterpart_25 ?_
      refine wq_iald tT_360 (q8.1 c10).1.1 (q8.1 c10).1.2 dX11_counterpart_26 ?_
      refine wq_topI (fun x11 e12 => ?_)
      refine wq_istore (ls' := [(0, vR 343), (1, vI p1), (2, vI p2), (3, vI p3), (4, vI x11)]) (by decide) rfl dX11_counterpart_27 ?_
      refine wq_iconst (z := 0) (zlit rfl) dX11_counterpart_29 ?_
      refine wq_istore (ls' := [(0, vR 343), (1, vI p1), (2, vI p2), (3, vI p3), (4, vI x11), (5, vI 0)]) (by decide) rfl dX11_counterpart_30 ?_
      exact wq_pick [0, 1, 2, 3, 4, 5] rfl (hI_32 p1 p2 p3 x11 0 h7 (((q8.1 c10).2 x11 e12) hS9))
    · refine wq_sipush (z := -1001) (zlit rfl) rfl dX11_counterpart_17 ?_
      exact wp_iret rfl dX11_counterpart_20 (q8.2 c10)
theorem vc_X11_counterpart_32 {G : zG} {d : Nat} {Q : Option zV → zHp → Prop} (y1 : Int) (y2 : Int) (y3 : Int) (y4 : Int) (y5 : Int) (h : zHp) (hS : zSh h) (hd : 6 ≤ d) (I_32 : Int → Int → Int → Int → Int → zHp → Prop) (hI_32 : ∀ (y1 : Int) (y2 : Int) (y3 : Int) (y4 : Int) (y5 : Int) (h' : zHp), I_32 y1 y2 y3 y4 y5 h' → wpN G d M_X11_counterpart 32 [(0, vR 343), (1, vI y1), (2, vI y2), (3, vI y3), (4, vI y4), (5, vI y5)] [] h' Q) (I_71 : Int → Int → Int → Int → Int → zHp → Prop) (hI_71 : ∀ (y1 : Int) (y2 : Int) (y3 : Int) (y4 : Int) (y5 : Int) (h' : zHp), I_71 y1 y2 y3 y4 y5 h' → wpN G d M_X11_counterpart 71 [(0, vR 343), (1, vI y1), (2, vI y2), (3, vI y3), (4, vI y4), (5, vI y5)] [] h' Q) 
    (hv : ((y4 ≤ y5 → (wpN G (d - 1) M_X11_laysOut 0 (zar 0 [vR 343, vI y3]) [] h (qV (fun h3 => zSh h3 ∧ (zSh h3 → I_71 y1 y2 y3 y4 0 h3))))) ∧ (y5 < y4 → ((-2147483648 ≤ 4 * y2 ∧ 4 * y2 ≤ 2147483647) ∧ ((-2147483648 ≤ (4 * y2) + y5 ∧ (4 * y2) + y5 ≤ 2147483647) ∧ (((0 : Int) ≤ ((4 * y2) + y5) ∧ ((4 * y2) + y5) < ((240 : Nat) : Int)) ∧ (((0 : Int) ≤ y5 ∧ y5 < ((4 : Nat) : Int)) ∧ (∀ h6 : zHp, h6 = sI h 368 y5.toNat (gI h 361 ((4 * y2) + y5).toNat) → ((-2147483648 ≤ y5 + 1 ∧ y5 + 1 ≤ 2147483647) ∧ ∀ x8 : Int, x8 = y5 + 1 → (zSh h6 → I_32 y1 y2 y3 y4 x8 h6)))))))))) : wpN G d M_X11_counterpart 32 [(0, vR 343), (1, vI y1), (2, vI y2), (3, vI y3), (4, vI y4), (5, vI y5)] [] h Q := by
  refine wq_iload 5 rfl dX11_counterpart_32 ?_
  refine wq_iload 4 rfl dX11_counterpart_34 ?_
  refine wq_icmp_ge 63 rfl dX11_counterpart_36 (fun c1 => ?_) (fun c1 => ?_)
  · refine wq_aload_n 0 rfl rfl dX11_counterpart_63 ?_
    refine wq_iload_n 3 rfl rfl dX11_counterpart_64 ?_
    refine wN_V (As := [vI y3]) vm_X11_laysOut lk_X11_295 tT_343 rfl rfl (Nat.le_of_ble_eq_true rfl) (Nat.le_of_ble_eq_true rfl) (d' := d - 1) (by omega) dX11_counterpart_65 (hv.1 c1) (fun v9 h3 q4 => ?_)
    obtain ⟨rfl, hS5, q4⟩ := q4
    refine wq_st (st' := []) rfl ?_
    refine wq_iconst (z := 0) (zlit rfl) dX11_counterpart_68 ?_
    refine wq_istore (ls' := [(0, vR 343), (1, vI y1), (2, vI y2), (3, vI y3), (4, vI y4), (5, vI 0)]) (by decide) rfl dX11_counterpart_69 ?_
    exact wq_pick [0, 1, 2, 3, 4, 5] rfl (hI_71 y1 y2 y3 y4 0 h3 (q4 hS5))
  · refine wq_aload_n 0 rfl rfl dX11_counterpart_39 ?_
    refine wq_getR fk_X11_83 tT_343 (fun _ _ _ => rfl) (sh_11_42 hS) (by decide) dX11_counterpart_40 ?_
    refine wq_iload 5 rfl dX11_counterpart_43 ?_
    refine wq_aload_n 0 rfl rfl dX11_counterpart_45 ?_
    refine wq_getR fk_X11_61 tT_343 (fun _ _ _ => rfl) (sh_11_30 hS) (by decide) dX11_counterpart_46 ?_
    refine wq_iconst (z := 4) (zlit rfl) dX11_counterpart_49 ?_
    refine wq_iload_n 2 rfl rfl dX11_counterpart_50 ?_
    refine wq_imul (hv.2 c1).1 dX11_counterpart_51 ?_
    refine wq_iload 5 rfl dX11_counterpart_52 ?_
    refine wq_iadd (hv.2 c1).2.1 dX11_counterpart_54 ?_
    refine wq_iald tT_361 (hv.2 c1).2.2.1.1 (hv.2 c1).2.2.1.2 dX11_counterpart_55 ?_
    refine wq_iast tT_368 (hv.2 c1).2.2.2.1.1 (hv.2 c1).2.2.2.1.2 dX11_counterpart_56 ?_
    refine wq_toph (fun h6 e7 => ?_)
    have sh6 : zSh h6 := zSh_of e7 hS
    refine z_nm (y5 + 1) (fun x8 e9 => ?_)
    refine wq_iinc (y := x8) (ls' := [(0, vR 343), (1, vI y1), (2, vI y2), (3, vI y3), (4, vI y4), (5, vI x8)]) 5 rfl e9.symm (by rw [e9]; exact ((hv.2 c1).2.2.2.2 h6 e7).1) (by decide) rfl dX11_counterpart_57 ?_
    refine wq_goto 32 rfl dX11_counterpart_60 ?_
    exact wq_pick [0, 1, 2, 3, 4, 5] rfl (hI_32 y1 y2 y3 y4 x8 h6 ((((hv.2 c1).2.2.2.2 h6 e7).2 x8 e9) sh6))
theorem vc_X11_counterpart_71 {G : zG} {d : Nat} {Q : Option zV → zHp → Prop} (y1 : Int) (y2 : Int) (y3 : Int) (y4 : Int) (y5 : Int) (h : zHp) (hS : zSh h) (hd : 6 ≤ d) (I_102 : Int → Int → Int → Int → Int → Int → Int → zHp → Prop) (hI_102 : ∀ (y1 : Int) (y2 : Int) (y3 : Int) (y4 : Int) (y5 : Int) (y6 : Int) (y7 : Int) (h' : zHp), I_102 y1 y2 y3 y4 y5 y6 y7 h' → wpN G d M_X11_counterpart 102 [(0, vR 343), (1, vI y1), (2, vI y2), (3, vI y3), (4, vI y4), (5, vI y5), (6, vI y6), (7, vI y7)] [] h' Q) 
    (hv : (((gI h 343 31) ≤ y5 → Q (some (vI (-1009))) h) ∧ (y5 < (gI h 343 31) → (((0 : Int) ≤ y5 ∧ y5 < ((60 : Nat) : Int)) ∧ (((gI h 360 y5.toNat) ≠ y4 → (zSh h → I_102 y1 y2 y3 y4 y5 0 0 h)) ∧ ((gI h 360 y5.toNat) = y4 → (zSh h → I_102 y1 y2 y3 y4 y5 1 0 h))))))) : wpN G d M_X11_counterpart 71 [(0, vR 343), (1, vI y1), (2, vI y2), (3, vI y3), (4, vI y4), (5, vI y5)] [] h Q := by
  refine wq_iload 5 rfl dX11_counterpart_71 ?_
  refine wq_aload_n 0 rfl rfl dX11_counterpart_73 ?_
  refine wq_getI fk_X11_235 tT_343 (fun _ _ _ => rfl) dX11_counterpart_74 ?_
  refine wq_icmp_ge 163 rfl dX11_counterpart_77 (fun c1 => ?_) (fun c1 => ?_)
  · refine wq_sipush (z := -1009) (zlit rfl) rfl dX11_counterpart_163 ?_
    exact wp_iret rfl dX11_counterpart_166 (hv.1 c1)
  · refine wq_aload_n 0 rfl rfl dX11_counterpart_80 ?_
    refine wq_getR fk_X11_58 tT_343 (fun _ _ _ => rfl) (sh_11_29 hS) (by decide) dX11_counterpart_81 ?_
    refine wq_iload 5 rfl dX11_counterpart_84 ?_
    refine wq_iald tT_360 (hv.2 c1).1.1 (hv.2 c1).1.2 dX11_counterpart_86 ?_
    refine wq_iload 4 rfl dX11_counterpart_87 ?_
    refine wq_icmp_ne 96 rfl dX11_counterpart_89 (fun c2 => ?_) (fun c2 => ?_)
    · refine wq_iconst (z := 0) (zlit rfl) dX11_counterpart_96 ?_
      refine wq_istore (ls' := [(0, vR 343), (1, vI y1), (2, vI y2), (3, vI y3), (4, vI y4), (5, vI y5), (6, vI 0)]) (by decide) rfl dX11_counterpart_97 ?_
      refine wq_iconst (z := 0) (zlit rfl) dX11_counterpart_99 ?_
      refine wq_istore (ls' := [(0, vR 343), (1, vI y1), (2, vI y2), (3, vI y3), (4, vI y4), (5, vI y5), (6, vI 0), (7, vI 0)]) (by decide) rfl dX11_counterpart_100 ?_
      exact wq_pick [0, 1, 2, 3, 4, 5, 6, 7] rfl (hI_102 y1 y2 y3 y4 y5 0 0 h (((hv.2 c1).2.1 c2) hS))
    · refine wq_iconst (z := 1) (zlit rfl) dX11_counterpart_92 ?_
      refine wq_goto 97 rfl dX11_counterpart_93 ?_
      refine wq_istore (ls' := [(0, vR 343), (1, vI y1), (2, vI y2), (3, vI y3), (4, vI y4), (5, vI y5), (6, vI 1)]) (by decide) rfl dX11_counterpart_97 ?_
      refine wq_iconst (z := 0) (zlit rfl) dX11_counterpart_99 ?_
      refine wq_istore (ls' := [(0, vR 343), (1, vI y1), (2, vI y2), (3, vI y3), (4, vI y4), (5, vI y5), (6, vI 1), (7, vI 0)]) (by decide) rfl dX11_counterpart_100 ?_
      exact wq_pick [0, 1, 2, 3, 4, 5, 6, 7] rfl (hI_102 y1 y2 y3 y4 y5 1 0 h (((hv.2 c1).2.2 c2) hS))
theorem vc_X11_counterpart_102 {G : zG} {d : Nat} {Q : Option zV → zHp → Prop} (y1 : Int) (y2 : Int) (y3 : Int) (y4 : Int) (y5 : Int) (y6 : Int) (y7 : Int) (h : zHp) (hS : zSh h) (hd : 6 ≤ d) (I_71 : Int → Int → Int → Int → Int → zHp → Prop) (hI_71 : ∀ (y1 : Int) (y2 : Int) (y3 : Int) (y4 : Int) (y5 : Int) (h' : zHp), I_71 y1 y2 y3 y4 y5 h' → wpN G d M_X11_counterpart 71 [(0, vR 343), (1, vI y1), (2, vI y2), (3, vI y3), (4, vI y4), (5, vI y5)] [] h' Q) (I_102 : Int → Int → Int → Int → Int → Int → Int → zHp → Prop) (hI_102 : ∀ (y1 : Int) (y2 : Int) (y3 : Int) (y4 : Int) (y5 : Int) (y6 : Int) (y7 : Int) (h' : zHp), I_102 y1 y2 y3 y4 y5 y6 y7 h' → wpN G d M_X11_counterpart 102 [(0, vR 343), (1, vI y1), (2, vI y2), (3, vI y3), (4, vI y4), (5, vI y5), (6, vI y6), (7, vI y7)] [] h' Q) 
    (hv : ((y4 ≤ y7 → ((y6 = 0 → ((-2147483648 ≤ y5 + 1 ∧ y5 + 1 ≤ 2147483647) ∧ ∀ x3 : Int, x3 = y5 + 1 → (zSh h → I_71 y1 y2 y3 y4 x3 h))) ∧ (y6 ≠ 0 → Q (some (vI y5)) h))) ∧ (y7 < y4 → ((y6 = 0 → ((y6 = 0 → ((-2147483648 ≤ y5 + 1 ∧ y5 + 1 ≤ 2147483647) ∧ ∀ x7 : Int, x7 = y5 + 1 → (zSh h → I_71 y1 y2 y3 y4 x7 h))) ∧ (y6 ≠ 0 → Q (some (vI y5)) h))) ∧ (y6 ≠ 0 → ((-2147483648 ≤ 4 * y5 ∧ 4 * y5 ≤ 2147483647) ∧ ((-2147483648 ≤ (4 * y5) + y7 ∧ (4 * y5) + y7 ≤ 2147483647) ∧ (((0 : Int) ≤ ((4 * y5) + y7) ∧ ((4 * y5) + y7) < ((240 : Nat) : Int)) ∧ (((0 : Int) ≤ y7 ∧ y7 < ((4 : Nat) : Int)) ∧ (((gI h 361 ((4 * y5) + y7).toNat) ≠ (gI h 368 y7.toNat) → ((-2147483648 ≤ y7 + 1 ∧ y7 + 1 ≤ 2147483647) ∧ ∀ x10 : Int, x10 = y7 + 1 → (zSh h → I_102 y1 y2 y3 y4 y5 0 x10 h))) ∧ ((gI h 361 ((4 * y5) + y7).toNat) = (gI h 368 y7.toNat) → ((-2147483648 ≤ y7 + 1 ∧ y7 + 1 ≤ 2147483647) ∧ ∀ x12 : Int, x12 = y7 + 1 → (zSh h → I_102 y1 y2 y3 y4 y5 1 x12 h))))))))))))) : wpN G d M_X11_counterpart 102 [(0, vR 343), (1, vI y1), (2, vI y2), (3, vI y3), (4, vI y4), (5, vI y5), (6, vI y6), (7, vI y7)] [] h Q := by
  refine wq_iload 7 rfl dX11_counterpart_102 ?_
  refine wq_iload 4 rfl dX11_counterpart_104 ?_
  refine wq_icmp_ge 149 rfl dX11_counterpart_106 (fun c1 => ?_) (fun c1 => ?_)
  · refine wq_iload 6 rfl dX11_counterpart_149 ?_
    refine wq_if_eq 157 rfl dX11_counterpart_151 (fun c2 => ?_) (fun c2 => ?_)
    · refine z_nm (y5 + 1) (fun x3 e4 => ?_)
      refine wq_iinc (y := x3) (ls' := [(0, vR 343), (1, vI y1), (2, vI y2), (3, vI y3), (4, vI y4), (5, vI x3), (6, vI y6), (7, vI y7)]) 5 rfl e4.symm (by rw [e4]; exact ((hv.1 c1).1 c2).1) (by decide) rfl dX11_counterpart_157 ?_
      refine wq_goto 71 rfl dX11_counterpart_160 ?_
      exact wq_pick [0, 1, 2, 3, 4, 5] rfl (hI_71 y1 y2 y3 y4 x3 h ((((hv.1 c1).1 c2).2 x3 e4) hS))
    · refine wq_iload 5 rfl dX11_counterpart_154 ?_
      exact wp_iret rfl dX11_counterpart_156 ((hv.1 c1).2 c2)
  · refine wq_iload 6 rfl dX11_counterpart_109 ?_
    refine wq_if_eq 149 rfl dX11_counterpart_111 (fun c5 => ?_) (fun c5 => ?_)
    · refine wq_iload 6 rfl dX11_counterpart_149 ?_
      refine wq_if_eq 157 rfl dX11_counterpart_151 (fun c6 => ?_) (fun c6 => ?_)
      · refine z_nm (y5 + 1) (fun x7 e8 => ?_)
        refine wq_iinc (y := x7) (ls' := [(0, vR 343), (1, vI y1), (2, vI y2), (3, vI y3), (4, vI y4), (5, vI x7), (6, vI y6), (7, vI y7)]) 5 rfl e8.symm (by rw [e8]; exact (((hv.2 c1).1 c5).1 c6).1) (by decide) rfl dX11_counterpart_157 ?_
        refine wq_goto 71 rfl dX11_counterpart_160 ?_
        exact wq_pick [0, 1, 2, 3, 4, 5] rfl (hI_71 y1 y2 y3 y4 x7 h (((((hv.2 c1).1 c5).1 c6).2 x7 e8) hS))
      · refine wq_iload 5 rfl dX11_counterpart_154 ?_
        exact wp_iret rfl dX11_counterpart_156 (((hv.2 c1).1 c5).2 c6)
    · refine wq_aload_n 0 rfl rfl dX11_counterpart_114 ?_
      refine wq_getR fk_X11_61 tT_343 (fun _ _ _ => rfl) (sh_11_30 hS) (by decide) dX11_counterpart_115 ?_
      refine wq_iconst (z := 4) (zlit rfl) dX11_counterpart_118 ?_
      refine wq_iload 5 rfl dX11_counterpart_119 ?_
      refine wq_imul ((hv.2 c1).2 c5).1 dX11_counterpart_121 ?_
      refine wq_iload 7 rfl dX11_counterpart_122 ?_
      refine wq_iadd ((hv.2 c1).2 c5).2.1 dX11_counterpart_124 ?_
      refine wq_iald tT_361 ((hv.2 c1).2 c5).2.2.1.1 ((hv.2 c1).2 c5).2.2.1.2 dX11_counterpart_125 ?_
      refine wq_aload_n 0 rfl rfl dX11_counterpart_126 ?_
      refine wq_getR fk_X11_83 tT_343 (fun _ _ _ => rfl) (sh_11_42 hS) (by decide) dX11_counterpart_127 ?_
      refine wq_iload 7 rfl dX11_counterpart_130 ?_
      refine wq_iald tT_368 ((hv.2 c1).2 c5).2.2.2.1.1 ((hv.2 c1).2 c5).2.2.2.1.2 dX11_counterpart_132 ?_
      refine wq_icmp_ne 140 rfl dX11_counterpart_133 (fun c9 => ?_) (fun c9 => ?_)
      · refine wq_iconst (z := 0) (zlit rfl) dX11_counterpart_140 ?_
        refine wq_istore (ls' := [(0, vR 343), (1, vI y1), (2, vI y2), (3, vI y3), (4, vI y4), (5, vI y5), (6, vI 0), (7, vI y7)]) (by decide) rfl dX11_counterpart_141 ?_
        refine z_nm (y7 + 1) (fun x10 e11 => ?_)
        refine wq_iinc (y := x10) (ls' := [(0, vR 343), (1, vI y1), (2, vI y2), (3, vI y3), (4, vI y4), (5, vI y5), (6, vI 0), (7, vI x10)]) 7 rfl e11.symm (by rw [e11]; exact (((hv.2 c1).2 c5).2.2.2.2.1 c9).1) (by decide) rfl dX11_counterpart_143 ?_
        refine wq_goto 102 rfl dX11_counterpart_146 ?_
        exact wq_pick [0, 1, 2, 3, 4, 5, 6, 7] rfl (hI_102 y1 y2 y3 y4 y5 0 x10 h (((((hv.2 c1).2 c5).2.2.2.2.1 c9).2 x10 e11) hS))
      · refine wq_iconst (z := 1) (zlit rfl) dX11_counterpart_136 ?_
        refine wq_goto 141 rfl dX11_counterpart_137 ?_
        refine wq_istore (ls' := [(0, vR 343), (1, vI y1), (2, vI y2), (3, vI y3), (4, vI y4), (5, vI y5), (6, vI 1), (7, vI y7)]) (by decide) rfl dX11_counterpart_141 ?_
        refine z_nm (y7 + 1) (fun x12 e13 => ?_)
        refine wq_iinc (y := x12) (ls' := [(0, vR 343), (1, vI y1), (2, vI y2), (3, vI y3), (4, vI y4), (5, vI y5), (6, vI 1), (7, vI x12)]) 7 rfl e13.symm (by rw [e13]; exact (((hv.2 c1).2 c5).2.2.2.2.2 c9).1) (by decide) rfl dX11_counterpart_143 ?_
        refine wq_goto 102 rfl dX11_counterpart_146 ?_
        exact wq_pick [0, 1, 2, 3, 4, 5, 6, 7] rfl (hI_102 y1 y2 y3 y4 y5 1 x12 h (((((hv.2 c1).2 c5).2.2.2.2.2 c9).2 x12 e13) hS))
theorem dX11_fits_0 : decode cX11_fits 0 = .ok (.lconst 1, 1) := by decide +kernel
theorem dX11_fits_1 : decode cX11_fits 1 = .ok (.bipush 8, 2) := by decide +kernel
theorem dX11_fits_3 : decode cX11_fits 3 = .ok (.aload_n 0, 1) := by decide +kernel
theorem dX11_fits_4 : decode cX11_fits 4 = .ok (.getfield 43, 3) := by decide +kernel
theorem dX11_fits_7 : decode cX11_fits 7 = .ok (.iload_n 1, 1) := by decide +kernel
theorem dX11_fits_8 : decode cX11_fits 8 = .ok (.iaload, 1) := by decide +kernel
theorem dX11_fits_9 : decode cX11_fits 9 = .ok (.imul, 1) := by decide +kernel
theorem dX11_fits_10 : decode cX11_fits 10 = .ok (.iconst 1, 1) := by decide +kernel
theorem dX11_fits_11 : decode cX11_fits 11 = .ok (.isub, 1) := by decide +kernel
theorem dX11_fits_12 : decode cX11_fits 12 = .ok (.lshl, 1) := by decide +kernel
theorem dX11_fits_13 : decode cX11_fits 13 = .ok (.lstore 4, 2) := by decide +kernel
theorem dX11_fits_15 : decode cX11_fits 15 = .ok (.aload_n 0, 1) := by decide +kernel
theorem dX11_fits_16 : decode cX11_fits 16 = .ok (.getfield 46, 3) := by decide +kernel
theorem dX11_fits_19 : decode cX11_fits 19 = .ok (.iload_n 1, 1) := by decide +kernel
theorem dX11_fits_20 : decode cX11_fits 20 = .ok (.iaload, 1) := by decide +kernel
theorem dX11_fits_21 : decode cX11_fits 21 = .ok (.iconst 1, 1) := by decide +kernel
theorem dX11_fits_22 : decode cX11_fits 22 = .ok (.if_icmp .ne 17, 3) := by decide +kernel
theorem dX11_fits_25 : decode cX11_fits 25 = .ok (.lload_n 2, 1) := by decide +kernel
theorem dX11_fits_26 : decode cX11_fits 26 = .ok (.lload 4, 2) := by decide +kernel
theorem dX11_fits_28 : decode cX11_fits 28 = .ok (.lneg, 1) := by decide +kernel
theorem dX11_fits_29 : decode cX11_fits 29 = .ok (.lload 4, 2) := by decide +kernel
theorem dX11_fits_31 : decode cX11_fits 31 = .ok (.lconst 1, 1) := by decide +kernel
theorem dX11_fits_32 : decode cX11_fits 32 = .ok (.lsub, 1) := by decide +kernel
theorem dX11_fits_33 : decode cX11_fits 33 = .ok (.invokestatic 91, 3) := by decide +kernel
theorem dX11_fits_36 : decode cX11_fits 36 = .ok (.goto 16, 3) := by decide +kernel
theorem dX11_fits_39 : decode cX11_fits 39 = .ok (.lload_n 2, 1) := by decide +kernel
theorem dX11_fits_40 : decode cX11_fits 40 = .ok (.lconst 0, 1) := by decide +kernel
theorem dX11_fits_41 : decode cX11_fits 41 = .ok (.ldc2_w 229, 3) := by decide +kernel
theorem dX11_fits_44 : decode cX11_fits 44 = .ok (.lload 4, 2) := by decide +kernel
theorem dX11_fits_46 : decode cX11_fits 46 = .ok (.lmul, 1) := by decide +kernel
theorem dX11_fits_47 : decode cX11_fits 47 = .ok (.lconst 1, 1) := by decide +kernel
theorem dX11_fits_48 : decode cX11_fits 48 = .ok (.lsub, 1) := by decide +kernel
theorem dX11_fits_49 : decode cX11_fits 49 = .ok (.invokestatic 91, 3) := by decide +kernel
theorem dX11_fits_52 : decode cX11_fits 52 = .ok (.ireturn, 1) := by decide +kernel
theorem vc_X11_fits_0 {G : zG} {d : Nat} {Q : Option zV → zHp → Prop} (p1 : Int) (p2 : Int) (h : zHp) (hS : zSh h) (hd : 1 ≤ d)  
    (hv : (((0 : Int) ≤ p1 ∧ p1 < ((60 : Nat) : Int)) ∧ ((-2147483648 ≤ 8 * (gI h 355 p1.toNat) ∧ 8 * (gI h 355 p1.toNat) ≤ 2147483647) ∧ ((-2147483648 ≤ (8 * (gI h 355 p1.toNat)) - 1 ∧ (8 * (gI h 355 p1.toNat)) - 1 ≤ 2147483647) ∧ (∀ x1 : Int, x1 = (zshl 1 ((8 * (gI h 355 p1.toNat)) - 1)) → (((0 : Int) ≤ p1 ∧ p1 < ((60 : Nat) : Int)) ∧ (((gI h 356 p1.toNat) ≠ 1 → ((-9223372036854775808 ≤ 2 * x1 ∧ 2 * x1 ≤ 9223372036854775807) ∧ ((-9223372036854775808 ≤ (2 * x1) - 1 ∧ (2 * x1) - 1 ≤ 9223372036854775807) ∧ (wpN G (d - 1) M_X11_in 0 (zar 0 [vL p2, vL 0, vL ((2 * x1) - 1)]) [] h (qI (fun z4 h5 => zSh h5 ∧ ((z4 = 0 ∨ z4 = 1) ∧ Q (some (vI z4)) h5))))))) ∧ ((gI h 356 p1.toNat) = 1 → ((-9223372036854775808 ≤ -x1 ∧ -x1 ≤ 9223372036854775807) ∧ ((-9223372036854775808 ≤ x1 - 1 ∧ x1 - 1 ≤ 9223372036854775807) ∧ (wpN G (d - 1) M_X11_in 0 (zar 0 [vL p2, vL (-x1), vL (x1 - 1)]) [] h (qI (fun z8 h9 => zSh h9 ∧ ((z8 = 0 ∨ z8 = 1) ∧ Q (some (vI z8)) h9)))))))))))))) : wpN G d M_X11_fits 0 [(0, vR 343), (1, vI p1), (2, vL p2)] [] h Q := by
  refine wq_lconst (z := 1) (zlitL rfl) rfl dX11_fits_0 ?_
  refine wq_bipush (z := 8) (zlit rfl) rfl dX11_fits_1 ?_
  refine wq_aload_n 0 rfl rfl dX11_fits_3 ?_
  refine wq_getR fk_X11_43 tT_343 (fun _ _ _ => rfl) (sh_11_24 hS) (by decide) dX11_fits_4 ?_
  refine wq_iload_n 1 rfl rfl dX11_fits_7 ?_
  refine wq_iald tT_355 hv.1.1 hv.1.2 dX11_fits_8 ?_
  refine wq_imul hv.2.1 dX11_fits_9 ?_
  refine wq_iconst (z := 1) (zlit rfl) dX11_fits_10 ?_
  refine wq_isub hv.2.2.1 dX11_fits_11 ?_
  refine wq_lshl dX11_fits_12 ?_
  refine wq_topL (fun x1 e2 => ?_)
  refine wq_lstore (ls' := [(0, vR 343), (1, vI p1), (2, vL p2), (4, vL x1)]) (by decide) rfl dX11_fits_13 ?_
  refine wq_aload_n 0 rfl rfl dX11_fits_15 ?_
  refine wq_getR fk_X11_46 tT_343 (fun _ _ _ => rfl) (sh_11_25 hS) (by decide) dX11_fits_16 ?_
  refine wq_iload_n 1 rfl rfl dX11_fits_19 ?_
  refine wq_iald tT_356 (hv.2.2.2 x1 e2).1.1 (hv.2.2.2 x1 e2).1.2 dX11_fits_20 ?_
  refine wq_iconst (z := 1) (zlit rfl) dX11_fits_21 ?_
  refine wq_icmp_ne 39 rfl dX11_fits_22 (fun c3 => ?_) (fun c3 => ?_)
  · refine wq_lload_n 2 rfl rfl dX11_fits_39 ?_
    refine wq_lconst (z := 0) (zlitL rfl) rfl dX11_fits_40 ?_
    refine wq_ldc2_w (z := 2) (zlitL rfl) kc_X11_229 dX11_fits_41 ?_
    refine wq_lload 3 rfl dX11_fits_44 ?_
    refine wq_lmul ((hv.2.2.2 x1 e2).2.1 c3).1 dX11_fits_46 ?_
    refine wq_lconst (z := 1) (zlitL rfl) rfl dX11_fits_47 ?_
    refine wq_lsub ((hv.2.2.2 x1 e2).2.1 c3).2.1 dX11_fits_48 ?_
    refine wN_S (As := [vL p2, vL 0, vL ((2 * x1) - 1)]) md_X11_in ms_X11_in lk_X11_91 rfl rfl (Nat.le_of_ble_eq_true rfl) (Nat.le_of_ble_eq_true rfl) (d' := d - 1) (by omega) dX11_fits_49 ((hv.2.2.2 x1 e2).2.1 c3).2.2 (fun v9 h5 q6 => ?_)
    obtain ⟨z4, rfl, hS7, q6⟩ := q6
    refine wq_st (st' := [vI z4]) rfl ?_
    exact wp_zret q6.1 rfl dX11_fits_52 q6.2
  · refine wq_lload_n 2 rfl rfl dX11_fits_25 ?_
    refine wq_lload 3 rfl dX11_fits_26 ?_
    refine wq_lneg ((hv.2.2.2 x1 e2).2.2 c3).1 dX11_fits_28 ?_
    refine wq_lload 3 rfl dX11_fits_29 ?_
    refine wq_lconst (z := 1) (zlitL rfl) rfl dX11_fits_31 ?_
    refine wq_lsub ((hv.2.2.2 x1 e2).2.2 c3).2.1 dX11_fits_32 ?_
    refine wN_S (As := [vL p2, vL (-x1), vL (x1 - 1)]) md_X11_in ms_X11_in lk_X11_91 rfl rfl (Nat.le_of_ble_eq_true rfl) (Nat.le_of_ble_eq_true rfl) (d' := d - 1) (by omega) dX11_fits_33 ((hv.2.2.2 x1 e2).2.2 c3).2.2 (fun v9 h9 q10 => ?_)
    obtain ⟨z8, rfl, hS11, q10⟩ := q10
    refine wq_st (st' := [vI z8]) rfl ?_
    refine wq_goto 52 rfl dX11_fits_36 ?_
    exact wp_zret q10.1 rfl dX11_fits_52 q10.2
theorem dX11_setField_0 : decode cX11_setField 0 = .ok (.aload_n 0, 1) := by decide +kernel
theorem dX11_setField_1 : decode cX11_setField 1 = .ok (.iload_n 1, 1) := by decide +kernel
theorem dX11_setField_2 : decode cX11_setField 2 = .ok (.iload_n 2, 1) := by decide +kernel
theorem dX11_setField_3 : decode cX11_setField 3 = .ok (.invokevirtual 348, 3) := by decide +kernel
theorem dX11_setField_6 : decode cX11_setField 6 = .ok (.ifCond .ne 7, 3) := by decide +kernel
theorem dX11_setField_9 : decode cX11_setField 9 = .ok (.sipush (-1001), 3) := by decide +kernel
theorem dX11_setField_12 : decode cX11_setField 12 = .ok (.ireturn, 1) := by decide +kernel
theorem dX11_setField_13 : decode cX11_setField 13 = .ok (.aload_n 0, 1) := by decide +kernel
theorem dX11_setField_14 : decode cX11_setField 14 = .ok (.iload_n 2, 1) := by decide +kernel
theorem dX11_setField_15 : decode cX11_setField 15 = .ok (.lload_n 3, 1) := by decide +kernel
theorem dX11_setField_16 : decode cX11_setField 16 = .ok (.invokevirtual 359, 3) := by decide +kernel
theorem dX11_setField_19 : decode cX11_setField 19 = .ok (.ifCond .ne 7, 3) := by decide +kernel
theorem dX11_setField_22 : decode cX11_setField 22 = .ok (.sipush (-1004), 3) := by decide +kernel
theorem dX11_setField_25 : decode cX11_setField 25 = .ok (.ireturn, 1) := by decide +kernel
theorem dX11_setField_26 : decode cX11_setField 26 = .ok (.aload_n 0, 1) := by decide +kernel
theorem dX11_setField_27 : decode cX11_setField 27 = .ok (.invokevirtual 328, 3) := by decide +kernel
theorem dX11_setField_30 : decode cX11_setField 30 = .ok (.aload_n 0, 1) := by decide +kernel
theorem dX11_setField_31 : decode cX11_setField 31 = .ok (.iload_n 2, 1) := by decide +kernel
theorem dX11_setField_32 : decode cX11_setField 32 = .ok (.lload_n 3, 1) := by decide +kernel
theorem dX11_setField_33 : decode cX11_setField 33 = .ok (.invokevirtual 298, 3) := by decide +kernel
theorem dX11_setField_36 : decode cX11_setField 36 = .ok (.aload_n 0, 1) := by decide +kernel
theorem dX11_setField_37 : decode cX11_setField 37 = .ok (.iconst 1, 1) := by decide +kernel
theorem dX11_setField_38 : decode cX11_setField 38 = .ok (.invokevirtual 334, 3) := by decide +kernel
theorem dX11_setField_41 : decode cX11_setField 41 = .ok (.ifCond .ne 7, 3) := by decide +kernel
theorem dX11_setField_44 : decode cX11_setField 44 = .ok (.sipush (-1005), 3) := by decide +kernel
theorem dX11_setField_47 : decode cX11_setField 47 = .ok (.ireturn, 1) := by decide +kernel
theorem dX11_setField_48 : decode cX11_setField 48 = .ok (.aload_n 0, 1) := by decide +kernel
theorem dX11_setField_49 : decode cX11_setField 49 = .ok (.iload_n 1, 1) := by decide +kernel
theorem dX11_setField_50 : decode cX11_setField 50 = .ok (.invokevirtual 295, 3) := by decide +kernel
theorem dX11_setField_53 : decode cX11_setField 53 = .ok (.aload_n 0, 1) := by decide +kernel
theorem dX11_setField_54 : decode cX11_setField 54 = .ok (.getfield 235, 3) := by decide +kernel
theorem dX11_setField_57 : decode cX11_setField 57 = .ok (.ireturn, 1) := by decide +kernel
theorem vc_X11_setField_0 {G : zG} {d : Nat} {Q : Option zV → zHp → Prop} (p1 : Int) (p2 : Int) (p3 : Int) (h : zHp) (hS : zSh h) (hd : 8 ≤ d)  
    (hv : (wpN G (d - 1) M_X11_hasField 0 (zar 0 [vR 343, vI p1, vI p2]) [] h (qI (fun z1 h2 => zSh h2 ∧ ((z1 ≠ 0 → (wpN G (d - 1) M_X11_fits 0 (zar 0 [vR 343, vI p2, vL p3]) [] h2 (qI (fun z6 h7 => zSh h7 ∧ ((z6 ≠ 0 → (wpN G (d - 1) M_X11_keeps 0 (zar 0 [vR 343]) [] h7 (qV (fun h12 => zSh h12 ∧ (wpN G (d - 1) M_X11_puts 0 (zar 0 [vR 343, vI p2, vL p3]) [] h12 (qV (fun h16 => zSh h16 ∧ (wpN G (d - 1) M_X11_stays 0 (zar 0 [vR 343, vI 1]) [] h16 (qI (fun z19 h20 => zSh h20 ∧ ((z19 ≠ 0 → (wpN G (d - 1) M_X11_laysOut 0 (zar 0 [vR 343, vI p1]) [] h20 (qV (fun h25 => zSh h25 ∧ Q (some (vI (gI h25 343 31))) h25)))) ∧ (z19 = 0 → Q (some (vI (-1005))) h20)))))))))))) ∧ (z6 = 0 → Q (some (vI (-1004))) h7)))))) ∧ (z1 = 0 → Q (some (vI (-1001))) h2)))))) : wpN G d M_X11_setField 0 [(0, vR 343), (1, vI p1), (2, vI p2), (3, vL p3)] [] h Q := by
  refine wq_aload_n 0 rfl rfl dX11_setField_0 ?_
  refine wq_iload_n 1 rfl rfl dX11_setField_1 ?_
  refine wq_iload_n 2 rfl rfl dX11_setField_2 ?_
  refine wN_V (As := [vI p1, vI p2]) vm_X11_hasField lk_X11_348 tT_343 rfl rfl (Nat.le_of_ble_eq_true rfl) (Nat.le_of_ble_eq_true rfl) (d' := d - 1) (by omega) dX11_setField_3 hv (fun v9 h2 q3 => ?_)
  obtain ⟨z1, rfl, hS4, q3⟩ := q3
  refine wq_st (st' := [vI z1]) rfl ?_
  refine wq_if_ne 13 rfl dX11_setField_6 (fun c5 => ?_) (fun c5 => ?_)
  · refine wq_aload_n 0 rfl rfl dX11_setField_13 ?_
    refine wq_iload_n 2 rfl rfl dX11_setField_14 ?_
    refine wq_lload_n 3 rfl rfl dX11_setField_15 ?_
    refine wN_V (As := [vI p2, vL p3]) vm_X11_fits lk_X11_359 tT_343 rfl rfl (Nat.le_of_ble_eq_true rfl) (Nat.le_of_ble_eq_true rfl) (d' := d - 1) (by omega) dX11_setField_16 (q3.1 c5) (fun v9 h7 q8 => ?_)
    obtain ⟨z6, rfl, hS9, q8⟩ := q8
    refine wq_st (st' := [vI z6]) rfl ?_
    refine wq_if_ne 26 rfl dX11_setField_19 (fun c10 => ?_) (fun c10 => ?_)
    · refine wq_aload_n 0 rfl rfl dX11_setField_26 ?_
      refine wN_V (As := []) vm_X11_keeps lk_X11_328 tT_343 rfl rfl (Nat.le_of_ble_eq_true rfl) (Nat.le_of_ble_eq_true rfl) (d' := d - 1) (by omega) dX11_setField_27 (q8.1 c10) (fun v9 h12 q13 => ?_)
      obtain ⟨rfl, hS14, q13⟩ := q13
      refine wq_st (st' := []) rfl ?_
      refine wq_aload_n 0 rfl rfl dX11_setField_30 ?_
      refine wq_iload_n 2 rfl rfl dX11_setField_31 ?_
      refine wq_lload_n 3 rfl rfl dX11_setField_32 ?_
      refine wN_V (As := [vI p2, vL p3]) vm_X11_puts lk_X11_298 tT_343 rfl rfl (Nat.le_of_ble_eq_true rfl) (Nat.le_of_ble_eq_true rfl) (d' := d - 1) (by omega) dX11_setField_33 q13 (fun v9 h16 q17 => ?_)
      obtain ⟨rfl, hS18, q17⟩ := q17
      refine wq_st (st' := []) rfl ?_
      refine wq_aload_n 0 rfl rfl dX11_setField_36 ?_
      refine wq_iconst (z := 1) (zlit rfl) dX11_setField_37 ?_
      refine wN_V (As := [vI 1]) vm_X11_stays lk_X11_334 tT_343 rfl rfl (Nat.le_of_ble_eq_true rfl) (Nat.le_of_ble_eq_true rfl) (d' := d - 1) (by omega) dX11_setField_38 q17 (fun v9 h20 q21 => ?_)
      obtain ⟨z19, rfl, hS22, q21⟩ := q21
      refine wq_st (st' := [vI z19]) rfl ?_
      refine wq_if_ne 48 rfl dX11_setField_41 (fun c23 => ?_) (fun c23 => ?_)
      · refine wq_aload_n 0 rfl rfl dX11_setField_48 ?_
        refine wq_iload_n 1 rfl rfl dX11_setField_49 ?_
        refine wN_V (As := [vI p1]) vm_X11_laysOut lk_X11_295 tT_343 rfl rfl (Nat.le_of_ble_eq_true rfl) (Nat.le_of_ble_eq_true rfl) (d' := d - 1) (by omega) dX11_setField_50 (q21.1 c23) (fun v9 h25 q26 => ?_)
        obtain ⟨rfl, hS27, q26⟩ := q26
        refine wq_st (st' := []) rfl ?_
        refine wq_aload_n 0 rfl rfl dX11_setField_53 ?_
        refine wq_getI fk_X11_235 tT_343 (fun _ _ _ => rfl) dX11_setField_54 ?_
        exact wp_iret rfl dX11_setField_57 q26
      · refine wq_sipush (z := -1005) (zlit rfl) rfl dX11_setField_44 ?_
        exact wp_iret rfl dX11_setField_47 (q21.2 c23)
    · refine wq_sipush (z := -1004) (zlit rfl) rfl dX11_setField_22 ?_
      exact wp_iret rfl dX11_setField_25 (q8.2 c10)
  · refine wq_sipush (z := -1001) (zlit rfl) rfl dX11_setField_9 ?_
    exact wp_iret rfl dX11_setField_12 (q3.2 c5)
theorem dX11_follow_0 : decode cX11_follow 0 = .ok (.aload_n 0, 1) := by decide +kernel
theorem dX11_follow_1 : decode cX11_follow 1 = .ok (.getfield 310, 3) := by decide +kernel
theorem dX11_follow_4 : decode cX11_follow 4 = .ok (.ifCond .eq 7, 3) := by decide +kernel
theorem dX11_follow_7 : decode cX11_follow 7 = .ok (.iconst 1, 1) := by decide +kernel
theorem dX11_follow_8 : decode cX11_follow 8 = .ok (.goto 4, 3) := by decide +kernel
theorem dX11_follow_11 : decode cX11_follow 11 = .ok (.iconst 0, 1) := by decide +kernel
theorem dX11_follow_12 : decode cX11_follow 12 = .ok (.istore_n 2, 1) := by decide +kernel
theorem dX11_follow_13 : decode cX11_follow 13 = .ok (.aload_n 0, 1) := by decide +kernel
theorem dX11_follow_14 : decode cX11_follow 14 = .ok (.iload_n 1, 1) := by decide +kernel
theorem dX11_follow_15 : decode cX11_follow 15 = .ok (.putfield 310, 3) := by decide +kernel
theorem dX11_follow_18 : decode cX11_follow 18 = .ok (.iload_n 2, 1) := by decide +kernel
theorem dX11_follow_19 : decode cX11_follow 19 = .ok (.ireturn, 1) := by decide +kernel
theorem vc_X11_follow_0 {G : zG} {d : Nat} {Q : Option zV → zHp → Prop} (p1 : Int) (h : zHp) (hS : zSh h) (hd : 0 ≤ d)  
    (hv : (((gI h 343 6) = 0 → ((p1 = 0 ∨ p1 = 1) ∧ (∀ h2 : zHp, h2 = sI h 343 6 p1 → Q (some (vI 0)) h2))) ∧ ((gI h 343 6) ≠ 0 → ((p1 = 0 ∨ p1 = 1) ∧ (∀ h4 : zHp, h4 = sI h 343 6 p1 → Q (some (vI 1)) h4))))) : wpN G d M_X11_follow 0 [(0, vR 343), (1, vI p1)] [] h Q := by
  refine wq_aload_n 0 rfl rfl dX11_follow_0 ?_
  refine wq_getI fk_X11_310 tT_343 (fun _ _ _ => rfl) dX11_follow_1 ?_
  refine wq_if_eq 11 rfl dX11_follow_4 (fun c1 => ?_) (fun c1 => ?_)
  · refine wq_iconst (z := 0) (zlit rfl) dX11_follow_11 ?_
    refine wq_istore_n (ls' := [(0, vR 343), (1, vI p1), (2, vI 0)]) rfl (by decide) rfl dX11_follow_12 ?_
    refine wq_aload_n 0 rfl rfl dX11_follow_13 ?_
    refine wq_iload_n 1 rfl rfl dX11_follow_14 ?_
    refine wq_putZ (hv.1 c1).1 fk_X11_310 tT_343 rfl rfl dX11_follow_15 ?_
    refine wq_toph (fun h2 e3 => ?_)
    have sh2 : zSh h2 := zSh_of e3 hS
    refine wq_iload_n 2 rfl rfl dX11_follow_18 ?_
    exact wp_iret rfl dX11_follow_19 ((hv.1 c1).2 h2 e3)
  · refine wq_iconst (z := 1) (zlit rfl) dX11_follow_7 ?_
    refine wq_goto 12 rfl dX11_follow_8 ?_
    refine wq_istore_n (ls' := [(0, vR 343), (1, vI p1), (2, vI 1)]) rfl (by decide) rfl dX11_follow_12 ?_
    refine wq_aload_n 0 rfl rfl dX11_follow_13 ?_
    refine wq_iload_n 1 rfl rfl dX11_follow_14 ?_
    refine wq_putZ (hv.2 c1).1 fk_X11_310 tT_343 rfl rfl dX11_follow_15 ?_
    refine wq_toph (fun h4 e5 => ?_)
    have sh4 : zSh h4 := zSh_of e5 hS
    refine wq_iload_n 2 rfl rfl dX11_follow_18 ?_
    exact wp_iret rfl dX11_follow_19 ((hv.2 c1).2 h4 e5)
theorem dX11_refresh_0 : decode cX11_refresh 0 = .ok (.aload_n 0, 1) := by decide +kernel
theorem dX11_refresh_1 : decode cX11_refresh 1 = .ok (.invokevirtual 328, 3) := by decide +kernel
theorem dX11_refresh_4 : decode cX11_refresh 4 = .ok (.aload_n 0, 1) := by decide +kernel
theorem dX11_refresh_5 : decode cX11_refresh 5 = .ok (.invokevirtual 314, 3) := by decide +kernel
theorem dX11_refresh_8 : decode cX11_refresh 8 = .ok (.istore_n 1, 1) := by decide +kernel
theorem dX11_refresh_9 : decode cX11_refresh 9 = .ok (.aload_n 0, 1) := by decide +kernel
theorem dX11_refresh_10 : decode cX11_refresh 10 = .ok (.iload_n 1, 1) := by decide +kernel
theorem dX11_refresh_11 : decode cX11_refresh 11 = .ok (.ifCond .lt 7, 3) := by decide +kernel
theorem dX11_refresh_14 : decode cX11_refresh 14 = .ok (.iconst 1, 1) := by decide +kernel
theorem dX11_refresh_15 : decode cX11_refresh 15 = .ok (.goto 4, 3) := by decide +kernel
theorem dX11_refresh_18 : decode cX11_refresh 18 = .ok (.iconst 0, 1) := by decide +kernel
theorem dX11_refresh_19 : decode cX11_refresh 19 = .ok (.invokevirtual 334, 3) := by decide +kernel
theorem dX11_refresh_22 : decode cX11_refresh 22 = .ok (.ifCond .eq 7, 3) := by decide +kernel
theorem dX11_refresh_25 : decode cX11_refresh 25 = .ok (.iload_n 1, 1) := by decide +kernel
theorem dX11_refresh_26 : decode cX11_refresh 26 = .ok (.goto 6, 3) := by decide +kernel
theorem dX11_refresh_29 : decode cX11_refresh 29 = .ok (.sipush (-1005), 3) := by decide +kernel
theorem dX11_refresh_32 : decode cX11_refresh 32 = .ok (.ireturn, 1) := by decide +kernel
theorem vc_X11_refresh_0 {G : zG} {d : Nat} {Q : Option zV → zHp → Prop}  (h : zHp) (hS : zSh h) (hd : 8 ≤ d)  
    (hv : (wpN G (d - 1) M_X11_keeps 0 (zar 0 [vR 343]) [] h (qV (fun h2 => zSh h2 ∧ (wpN G (d - 1) M_X11_updates 0 (zar 0 [vR 343]) [] h2 (qI (fun z5 h6 => zSh h6 ∧ ((z5 < 0 → (wpN G (d - 1) M_X11_stays 0 (zar 0 [vR 343, vI 0]) [] h6 (qI (fun z10 h11 => zSh h11 ∧ ((z10 = 0 → Q (some (vI (-1005))) h11) ∧ (z10 ≠ 0 → Q (some (vI z5)) h11)))))) ∧ (0 ≤ z5 → (wpN G (d - 1) M_X11_stays 0 (zar 0 [vR 343, vI 1]) [] h6 (qI (fun z15 h16 => zSh h16 ∧ ((z15 = 0 → Q (some (vI (-1005))) h16) ∧ (z15 ≠ 0 → Q (some (vI z5)) h16)))))))))))))) : wpN G d M_X11_refresh 0 [(0, vR 343)] [] h Q := by
  refine wq_aload_n 0 rfl rfl dX11_refresh_0 ?_
  refine wN_V (As := []) vm_X11_keeps lk_X11_328 tT_343 rfl rfl (Nat.le_of_ble_eq_true rfl) (Nat.le_of_ble_eq_true rfl) (d' := d - 1) (by omega) dX11_refresh_1 hv (fun v9 h2 q3 => ?_)
  obtain ⟨rfl, hS4, q3⟩ := q3
  refine wq_st (st' := []) rfl ?_
  refine wq_aload_n 0 rfl rfl dX11_refresh_4 ?_
  refine wN_V (As := []) vm_X11_updates lk_X11_314 tT_343 rfl rfl (Nat.le_of_ble_eq_true rfl) (Nat.le_of_ble_eq_true rfl) (d' := d - 1) (by omega) dX11_refresh_5 q3 (fun v9 h6 q7 => ?_)
  obtain ⟨z5, rfl, hS8, q7⟩ := q7
  refine wq_st (st' := [vI z5]) rfl ?_
  refine wq_istore_n (ls' := [(0, vR 343), (1, vI z5)]) rfl (by decide) rfl dX11_refresh_8 ?_
  refine wq_aload_n 0 rfl rfl dX11_refresh_9 ?_
  refine wq_iload_n 1 rfl rfl dX11_refresh_10 ?_
  refine wq_if_lt 18 rfl dX11_refresh_11 (fun c9 => ?_) (fun c9 => ?_)
  · refine wq_iconst (z := 0) (zlit rfl) dX11_refresh_18 ?_
    refine wN_V (As := [vI 0]) vm_X11_stays lk_X11_334 tT_343 rfl rfl (Nat.le_of_ble_eq_true rfl) (Nat.le_of_ble_eq_true rfl) (d' := d - 1) (by omega) dX11_refresh_19 (q7.1 c9) (fun v9 h11 q12 => ?_)
    obtain ⟨z10, rfl, hS13, q12⟩ := q12
    refine wq_st (st' := [vI z10]) rfl ?_
    refine wq_if_eq 29 rfl dX11_refresh_22 (fun c14 => ?_) (fun c14 => ?_)
    · refine wq_sipush (z := -1005) (zlit rfl) rfl dX11_refresh_29 ?_
      exact wp_iret rfl dX11_refresh_32 (q12.1 c14)
    · refine wq_iload_n 1 rfl rfl dX11_refresh_25 ?_
      refine wq_goto 32 rfl dX11_refresh_26 ?_
      exact wp_iret rfl dX11_refresh_32 (q12.2 c14)
  · refine wq_iconst (z := 1) (zlit rfl) dX11_refresh_14 ?_
    refine wq_goto 19 rfl dX11_refresh_15 ?_
    refine wN_V (As := [vI 1]) vm_X11_stays lk_X11_334 tT_343 rfl rfl (Nat.le_of_ble_eq_true rfl) (Nat.le_of_ble_eq_true rfl) (d' := d - 1) (by omega) dX11_refresh_19 (q7.2 c9) (fun v9 h16 q17 => ?_)
    obtain ⟨z15, rfl, hS18, q17⟩ := q17
    refine wq_st (st' := [vI z15]) rfl ?_
    refine wq_if_eq 29 rfl dX11_refresh_22 (fun c19 => ?_) (fun c19 => ?_)
    · refine wq_sipush (z := -1005) (zlit rfl) rfl dX11_refresh_29 ?_
      exact wp_iret rfl dX11_refresh_32 (q17.1 c19)
    · refine wq_iload_n 1 rfl rfl dX11_refresh_25 ?_
      refine wq_goto 32 rfl dX11_refresh_26 ?_
      exact wp_iret rfl dX11_refresh_32 (q17.2 c19)
theorem dX11_expected_0 : decode cX11_expected 0 = .ok (.aload_n 0, 1) := by decide +kernel
theorem dX11_expected_1 : decode cX11_expected 1 = .ok (.iload_n 1, 1) := by decide +kernel
theorem dX11_expected_2 : decode cX11_expected 2 = .ok (.iload_n 2, 1) := by decide +kernel
theorem dX11_expected_3 : decode cX11_expected 3 = .ok (.invokevirtual 348, 3) := by decide +kernel
theorem dX11_expected_6 : decode cX11_expected 6 = .ok (.ifCond .ne 7, 3) := by decide +kernel
theorem dX11_expected_9 : decode cX11_expected 9 = .ok (.sipush (-1001), 3) := by decide +kernel
theorem dX11_expected_12 : decode cX11_expected 12 = .ok (.ireturn, 1) := by decide +kernel
theorem dX11_expected_13 : decode cX11_expected 13 = .ok (.aload_n 0, 1) := by decide +kernel
theorem dX11_expected_14 : decode cX11_expected 14 = .ok (.getfield 46, 3) := by decide +kernel
theorem dX11_expected_17 : decode cX11_expected 17 = .ok (.iload_n 2, 1) := by decide +kernel
theorem dX11_expected_18 : decode cX11_expected 18 = .ok (.iaload, 1) := by decide +kernel
theorem dX11_expected_19 : decode cX11_expected 19 = .ok (.iconst 1, 1) := by decide +kernel
theorem dX11_expected_20 : decode cX11_expected 20 = .ok (.if_icmp .le 11, 3) := by decide +kernel
theorem dX11_expected_23 : decode cX11_expected 23 = .ok (.aload_n 0, 1) := by decide +kernel
theorem dX11_expected_24 : decode cX11_expected 24 = .ok (.iload_n 2, 1) := by decide +kernel
theorem dX11_expected_25 : decode cX11_expected 25 = .ok (.invokevirtual 287, 3) := by decide +kernel
theorem dX11_expected_28 : decode cX11_expected 28 = .ok (.goto 6, 3) := by decide +kernel
theorem dX11_expected_31 : decode cX11_expected 31 = .ok (.sipush (-1009), 3) := by decide +kernel
theorem dX11_expected_34 : decode cX11_expected 34 = .ok (.ireturn, 1) := by decide +kernel
theorem vc_X11_expected_0 {G : zG} {d : Nat} {Q : Option zV → zHp → Prop} (p1 : Int) (p2 : Int) (h : zHp) (hS : zSh h) (hd : 6 ≤ d)  
    (hv : (wpN G (d - 1) M_X11_hasField 0 (zar 0 [vR 343, vI p1, vI p2]) [] h (qI (fun z1 h2 => zSh h2 ∧ ((z1 ≠ 0 → (((0 : Int) ≤ p2 ∧ p2 < ((60 : Nat) : Int)) ∧ (((gI h2 356 p2.toNat) ≤ 1 → Q (some (vI (-1009))) h2) ∧ (1 < (gI h2 356 p2.toNat) → (wpN G (d - 1) M_X11_expectedOf 0 (zar 0 [vR 343, vI p2]) [] h2 (qI (fun z7 h8 => zSh h8 ∧ Q (some (vI z7)) h8))))))) ∧ (z1 = 0 → Q (some (vI (-1001))) h2)))))) : wpN G d M_X11_expected 0 [(0, vR 343), (1, vI p1), (2, vI p2)] [] h Q := by
  refine wq_aload_n 0 rfl rfl dX11_expected_0 ?_
  refine wq_iload_n 1 rfl rfl dX11_expected_1 ?_
  refine wq_iload_n 2 rfl rfl dX11_expected_2 ?_
  refine wN_V (As := [vI p1, vI p2]) vm_X11_hasField lk_X11_348 tT_343 rfl rfl (Nat.le_of_ble_eq_true rfl) (Nat.le_of_ble_eq_true rfl) (d' := d - 1) (by omega) dX11_expected_3 hv (fun v9 h2 q3 => ?_)
  obtain ⟨z1, rfl, hS4, q3⟩ := q3
  refine wq_st (st' := [vI z1]) rfl ?_
  refine wq_if_ne 13 rfl dX11_expected_6 (fun c5 => ?_) (fun c5 => ?_)
  · refine wq_aload_n 0 rfl rfl dX11_expected_13 ?_
    refine wq_getR fk_X11_46 tT_343 (fun _ _ _ => rfl) (sh_11_25 hS4) (by decide) dX11_expected_14 ?_
    refine wq_iload_n 2 rfl rfl dX11_expected_17 ?_
    refine wq_iald tT_356 (q3.1 c5).1.1 (q3.1 c5).1.2 dX11_expected_18 ?_
    refine wq_iconst (z := 1) (zlit rfl) dX11_expected_19 ?_
    refine wq_icmp_le 31 rfl dX11_expected_20 (fun c6 => ?_) (fun c6 => ?_)
    · refine wq_sipush (z := -1009) (zlit rfl) rfl dX11_expected_31 ?_
      exact wp_iret rfl dX11_expected_34 ((q3.1 c5).2.1 c6)
    · refine wq_aload_n 0 rfl rfl dX11_expected_23 ?_
      refine wq_iload_n 2 rfl rfl dX11_expected_24 ?_
      refine wN_V (As := [vI p2]) vm_X11_expectedOf lk_X11_287 tT_343 rfl rfl (Nat.le_of_ble_eq_true rfl) (Nat.le_of_ble_eq_true rfl) (d' := d - 1) (by omega) dX11_expected_25 ((q3.1 c5).2.2 c6) (fun v9 h8 q9 => ?_)
      obtain ⟨z7, rfl, hS10, q9⟩ := q9
      refine wq_st (st' := [vI z7]) rfl ?_
      refine wq_goto 34 rfl dX11_expected_28 ?_
      exact wp_iret rfl dX11_expected_34 q9
  · refine wq_sipush (z := -1001) (zlit rfl) rfl dX11_expected_9 ?_
    exact wp_iret rfl dX11_expected_12 (q3.2 c5)
