theorem dX2_isPresent_0 : decode cX2_isPresent 0 = .ok (.iload_n 1, 1) := by decide +kernel
theorem dX2_isPresent_1 : decode cX2_isPresent 1 = .ok (.ifCond .lt 22, 3) := by decide +kernel
theorem dX2_isPresent_4 : decode cX2_isPresent 4 = .ok (.iload_n 1, 1) := by decide +kernel
theorem dX2_isPresent_5 : decode cX2_isPresent 5 = .ok (.iconst 4, 1) := by decide +kernel
theorem dX2_isPresent_6 : decode cX2_isPresent 6 = .ok (.if_icmp .ge 17, 3) := by decide +kernel
theorem dX2_isPresent_9 : decode cX2_isPresent 9 = .ok (.aload_n 0, 1) := by decide +kernel
theorem dX2_isPresent_10 : decode cX2_isPresent 10 = .ok (.getfield 20, 3) := by decide +kernel
theorem dX2_isPresent_13 : decode cX2_isPresent 13 = .ok (.iload_n 1, 1) := by decide +kernel
theorem dX2_isPresent_14 : decode cX2_isPresent 14 = .ok (.iaload, 1) := by decide +kernel
theorem dX2_isPresent_15 : decode cX2_isPresent 15 = .ok (.iconst (-1), 1) := by decide +kernel
theorem dX2_isPresent_16 : decode cX2_isPresent 16 = .ok (.if_icmp .eq 7, 3) := by decide +kernel
theorem dX2_isPresent_19 : decode cX2_isPresent 19 = .ok (.iconst 1, 1) := by decide +kernel
theorem dX2_isPresent_20 : decode cX2_isPresent 20 = .ok (.goto 4, 3) := by decide +kernel
theorem dX2_isPresent_23 : decode cX2_isPresent 23 = .ok (.iconst 0, 1) := by decide +kernel
theorem dX2_isPresent_24 : decode cX2_isPresent 24 = .ok (.ireturn, 1) := by decide +kernel
theorem vc_X2_isPresent_0 {G : zG} {d : Nat} {Q : Option zV → zHp → Prop} (a : Nat) (hT_a : zT 369 a = (102, 3)) (p1 : Int) (h : zHp) (hS : zSh h) (hd : 0 ≤ d)  
    (hv : ((p1 < 0 → Q (some (vI 0)) h) ∧ (0 ≤ p1 → ((4 ≤ p1 → Q (some (vI 0)) h) ∧ (p1 < 4 → (((0 : Int) ≤ p1 ∧ p1 < ((4 : Nat) : Int)) ∧ (((gI h (a + 3) p1.toNat) = (-1) → Q (some (vI 0)) h) ∧ ((gI h (a + 3) p1.toNat) ≠ (-1) → Q (some (vI 1)) h)))))))) : wpN G d M_X2_isPresent 0 [(0, vR a), (1, vI p1)] [] h Q := by
  refine wq_iload_n 1 rfl rfl dX2_isPresent_0 ?_
  refine wq_if_lt 23 rfl dX2_isPresent_1 (fun c1 => ?_) (fun c1 => ?_)
  · refine wq_iconst (z := 0) (zlit rfl) dX2_isPresent_23 ?_
    exact wp_zret (Or.inl rfl) rfl dX2_isPresent_24 (hv.1 c1)
  · refine wq_iload_n 1 rfl rfl dX2_isPresent_4 ?_
    refine wq_iconst (z := 4) (zlit rfl) dX2_isPresent_5 ?_
    refine wq_icmp_ge 23 rfl dX2_isPresent_6 (fun c2 => ?_) (fun c2 => ?_)
    · refine wq_iconst (z := 0) (zlit rfl) dX2_isPresent_23 ?_
      exact wp_zret (Or.inl rfl) rfl dX2_isPresent_24 ((hv.2 c1).1 c2)
    · refine wq_aload_n 0 rfl rfl dX2_isPresent_9 ?_
      refine wq_getR (r := (a + 3)) fk_X2_20 hT_a (fun _ _ _ => rfl) (sh_2_1 hS hT_a) (by omega) dX2_isPresent_10 ?_
      refine wq_iload_n 1 rfl rfl dX2_isPresent_13 ?_
      refine wq_iald (zdoc1 hT_a) ((hv.2 c1).2 c2).1.1 ((hv.2 c1).2 c2).1.2 dX2_isPresent_14 ?_
      refine wq_iconst (z := -1) (zlit rfl) dX2_isPresent_15 ?_
      refine wq_icmp_eq 23 rfl dX2_isPresent_16 (fun c3 => ?_) (fun c3 => ?_)
      · refine wq_iconst (z := 0) (zlit rfl) dX2_isPresent_23 ?_
        exact wp_zret (Or.inl rfl) rfl dX2_isPresent_24 (((hv.2 c1).2 c2).2.1 c3)
      · refine wq_iconst (z := 1) (zlit rfl) dX2_isPresent_19 ?_
        refine wq_goto 24 rfl dX2_isPresent_20 ?_
        exact wp_zret (Or.inr rfl) rfl dX2_isPresent_24 (((hv.2 c1).2 c2).2.2 c3)
theorem dX2_drop_0 : decode cX2_drop 0 = .ok (.aload_n 0, 1) := by decide +kernel
theorem dX2_drop_1 : decode cX2_drop 1 = .ok (.iload_n 1, 1) := by decide +kernel
theorem dX2_drop_2 : decode cX2_drop 2 = .ok (.invokevirtual 27, 3) := by decide +kernel
theorem dX2_drop_5 : decode cX2_drop 5 = .ok (.ifCond .eq 17, 3) := by decide +kernel
theorem dX2_drop_8 : decode cX2_drop 8 = .ok (.aload_n 0, 1) := by decide +kernel
theorem dX2_drop_9 : decode cX2_drop 9 = .ok (.getfield 20, 3) := by decide +kernel
theorem dX2_drop_12 : decode cX2_drop 12 = .ok (.iload_n 1, 1) := by decide +kernel
theorem dX2_drop_13 : decode cX2_drop 13 = .ok (.iconst (-1), 1) := by decide +kernel
theorem dX2_drop_14 : decode cX2_drop 14 = .ok (.iastore, 1) := by decide +kernel
theorem dX2_drop_15 : decode cX2_drop 15 = .ok (.aload_n 0, 1) := by decide +kernel
theorem dX2_drop_16 : decode cX2_drop 16 = .ok (.getfield 24, 3) := by decide +kernel
theorem dX2_drop_19 : decode cX2_drop 19 = .ok (.iload_n 1, 1) := by decide +kernel
theorem dX2_drop_20 : decode cX2_drop 20 = .ok (.iconst 0, 1) := by decide +kernel
theorem dX2_drop_21 : decode cX2_drop 21 = .ok (.iastore, 1) := by decide +kernel
theorem dX2_drop_22 : decode cX2_drop 22 = .ok (.return_, 1) := by decide +kernel
theorem vc_X2_drop_0 {G : zG} {d : Nat} {Q : Option zV → zHp → Prop} (a : Nat) (hT_a : zT 369 a = (102, 3)) (p1 : Int) (h : zHp) (hS : zSh h) (hd : 1 ≤ d)  
    (hv : (wpN G (d - 1) M_X2_isPresent 0 (zar 0 [vR a, vI p1]) [] h (qI (fun z1 h2 => zSh h2 ∧ ((z1 = 0 → Q none h2) ∧ (z1 ≠ 0 → (((0 : Int) ≤ p1 ∧ p1 < ((4 : Nat) : Int)) ∧ (∀ h6 : zHp, h6 = sI h2 (a + 3) p1.toNat (-1) → (((0 : Int) ≤ p1 ∧ p1 < ((4 : Nat) : Int)) ∧ (∀ h8 : zHp, h8 = sI h6 (a + 4) p1.toNat 0 → Q none h8)))))))))) : wpN G d M_X2_drop 0 [(0, vR a), (1, vI p1)] [] h Q := by
  refine wq_aload_n 0 rfl rfl dX2_drop_0 ?_
  refine wq_iload_n 1 rfl rfl dX2_drop_1 ?_
  refine wN_V (As := [vI p1]) vm_X2_isPresent lk_X2_27 hT_a rfl rfl (Nat.le_of_ble_eq_true rfl) (Nat.le_of_ble_eq_true rfl) (d' := d - 1) (by omega) dX2_drop_2 hv (fun v9 h2 q3 => ?_)
  obtain ⟨z1, rfl, hS4, q3⟩ := q3
  refine wq_st (st' := [vI z1]) rfl ?_
  refine wq_if_eq 22 rfl dX2_drop_5 (fun c5 => ?_) (fun c5 => ?_)
  · exact wp_vret rfl dX2_drop_22 (q3.1 c5)
  · refine wq_aload_n 0 rfl rfl dX2_drop_8 ?_
    refine wq_getR (r := (a + 3)) fk_X2_20 hT_a (fun _ _ _ => rfl) (sh_2_1 hS4 hT_a) (by omega) dX2_drop_9 ?_
    refine wq_iload_n 1 rfl rfl dX2_drop_12 ?_
    refine wq_iconst (z := -1) (zlit rfl) dX2_drop_13 ?_
    refine wq_iast (zdoc1 hT_a) (q3.2 c5).1.1 (q3.2 c5).1.2 dX2_drop_14 ?_
    refine wq_toph (fun h6 e7 => ?_)
    have sh6 : zSh h6 := zSh_of e7 hS4
    refine wq_aload_n 0 rfl rfl dX2_drop_15 ?_
    refine wq_getR (r := (a + 4)) fk_X2_24 hT_a (fun _ _ _ => rfl) (sh_2_2 sh6 hT_a) (by omega) dX2_drop_16 ?_
    refine wq_iload_n 1 rfl rfl dX2_drop_19 ?_
    refine wq_iconst (z := 0) (zlit rfl) dX2_drop_20 ?_
    refine wq_iast (zdoc2 hT_a) ((q3.2 c5).2 h6 e7).1.1 ((q3.2 c5).2 h6 e7).1.2 dX2_drop_21 ?_
    refine wq_toph (fun h8 e9 => ?_)
    have sh8 : zSh h8 := zSh_of e9 sh6
    exact wp_vret rfl dX2_drop_22 (((q3.2 c5).2 h6 e7).2 h8 e9)
theorem dX2_presentOverlays_0 : decode cX2_presentOverlays 0 = .ok (.iconst 0, 1) := by decide +kernel
theorem dX2_presentOverlays_1 : decode cX2_presentOverlays 1 = .ok (.istore_n 1, 1) := by decide +kernel
theorem dX2_presentOverlays_2 : decode cX2_presentOverlays 2 = .ok (.iconst 0, 1) := by decide +kernel
theorem dX2_presentOverlays_3 : decode cX2_presentOverlays 3 = .ok (.istore_n 2, 1) := by decide +kernel
theorem dX2_presentOverlays_4 : decode cX2_presentOverlays 4 = .ok (.iload_n 2, 1) := by decide +kernel
theorem dX2_presentOverlays_5 : decode cX2_presentOverlays 5 = .ok (.iconst 4, 1) := by decide +kernel
theorem dX2_presentOverlays_6 : decode cX2_presentOverlays 6 = .ok (.if_icmp .ge 20, 3) := by decide +kernel
theorem dX2_presentOverlays_9 : decode cX2_presentOverlays 9 = .ok (.aload_n 0, 1) := by decide +kernel
theorem dX2_presentOverlays_10 : decode cX2_presentOverlays 10 = .ok (.iload_n 2, 1) := by decide +kernel
theorem dX2_presentOverlays_11 : decode cX2_presentOverlays 11 = .ok (.invokevirtual 27, 3) := by decide +kernel
theorem dX2_presentOverlays_14 : decode cX2_presentOverlays 14 = .ok (.ifCond .eq 6, 3) := by decide +kernel
theorem dX2_presentOverlays_17 : decode cX2_presentOverlays 17 = .ok (.iinc 1 1, 3) := by decide +kernel
theorem dX2_presentOverlays_20 : decode cX2_presentOverlays 20 = .ok (.iinc 2 1, 3) := by decide +kernel
theorem dX2_presentOverlays_23 : decode cX2_presentOverlays 23 = .ok (.goto (-19), 3) := by decide +kernel
theorem dX2_presentOverlays_26 : decode cX2_presentOverlays 26 = .ok (.iload_n 1, 1) := by decide +kernel
theorem dX2_presentOverlays_27 : decode cX2_presentOverlays 27 = .ok (.ireturn, 1) := by decide +kernel
theorem vc_X2_presentOverlays_0 {G : zG} {d : Nat} {Q : Option zV → zHp → Prop} (a : Nat) (hT_a : zT 369 a = (102, 3)) (h : zHp) (hS : zSh h) (hd : 1 ≤ d) (I_4 : Nat → Int → Int → zHp → Prop) (hI_4 : ∀ (y0 : Nat) (y1 : Int) (y2 : Int) (h' : zHp), I_4 y0 y1 y2 h' → wpN G d M_X2_presentOverlays 4 [(0, vR y0), (1, vI y1), (2, vI y2)] [] h' Q) 
    (hv : (zSh h → I_4 a 0 0 h)) : wpN G d M_X2_presentOverlays 0 [(0, vR a)] [] h Q := by
  refine wq_iconst (z := 0) (zlit rfl) dX2_presentOverlays_0 ?_
  refine wq_istore_n (ls' := [(0, vR a), (1, vI 0)]) rfl (by decide) rfl dX2_presentOverlays_1 ?_
  refine wq_iconst (z := 0) (zlit rfl) dX2_presentOverlays_2 ?_
  refine wq_istore_n (ls' := [(0, vR a), (1, vI 0), (2, vI 0)]) rfl (by decide) rfl dX2_presentOverlays_3 ?_
  exact wq_pick [0, 1, 2] rfl (hI_4 a 0 0 h (hv hS))
theorem vc_X2_presentOverlays_4 {G : zG} {d : Nat} {Q : Option zV → zHp → Prop} (y0 : Nat) (hT_y0 : zT 369 y0 = (102, 3)) (y1 : Int) (y2 : Int) (h : zHp) (hS : zSh h) (hd : 1 ≤ d) (I_4 : Nat → Int → Int → zHp → Prop) (hI_4 : ∀ (y0 : Nat) (y1 : Int) (y2 : Int) (h' : zHp), I_4 y0 y1 y2 h' → wpN G d M_X2_presentOverlays 4 [(0, vR y0), (1, vI y1), (2, vI y2)] [] h' Q) 
    (hv : ((4 ≤ y2 → Q (some (vI y1)) h) ∧ (y2 < 4 → (wpN G (d - 1) M_X2_isPresent 0 (zar 0 [vR y0, vI y2]) [] h (qI (fun z2 h3 => zSh h3 ∧ ((z2 = 0 → ((-2147483648 ≤ y2 + 1 ∧ y2 + 1 ≤ 2147483647) ∧ ∀ x7 : Int, x7 = y2 + 1 → (zSh h3 → I_4 y0 y1 x7 h3))) ∧ (z2 ≠ 0 → ((-2147483648 ≤ y1 + 1 ∧ y1 + 1 ≤ 2147483647) ∧ ∀ x9 : Int, x9 = y1 + 1 → ((-2147483648 ≤ y2 + 1 ∧ y2 + 1 ≤ 2147483647) ∧ ∀ x11 : Int, x11 = y2 + 1 → (zSh h3 → I_4 y0 x9 x11 h3))))))))))) : wpN G d M_X2_presentOverlays 4 [(0, vR y0), (1, vI y1), (2, vI y2)] [] h Q := by
  refine wq_iload_n 2 rfl rfl dX2_presentOverlays_4 ?_
  refine wq_iconst (z := 4) (zlit rfl) dX2_presentOverlays_5 ?_
  refine wq_icmp_ge 26 rfl dX2_presentOverlays_6 (fun c1 => ?_) (fun c1 => ?_)
  · refine wq_iload_n 1 rfl rfl dX2_presentOverlays_26 ?_
    exact wp_iret rfl dX2_presentOverlays_27 (hv.1 c1)
  · refine wq_aload_n 0 rfl rfl dX2_presentOverlays_9 ?_
    refine wq_iload_n 2 rfl rfl dX2_presentOverlays_10 ?_
    refine wN_V (As := [vI y2]) vm_X2_isPresent lk_X2_27 hT_y0 rfl rfl (Nat.le_of_ble_eq_true rfl) (Nat.le_of_ble_eq_true rfl) (d' := d - 1) (by omega) dX2_presentOverlays_11 (hv.2 c1) (fun v9 h3 q4 => ?_)
    obtain ⟨z2, rfl, hS5, q4⟩ := q4
    refine wq_st (st' := [vI z2]) rfl ?_
    refine wq_if_eq 20 rfl dX2_presentOverlays_14 (fun c6 => ?_) (fun c6 => ?_)
    · refine z_nm (y2 + 1) (fun x7 e8 => ?_)
      refine wq_iinc (y := x7) (ls' := [(0, vR y0), (1, vI y1), (2, vI x7)]) 2 rfl e8.symm (by rw [e8]; exact (q4.1 c6).1) (by decide) rfl dX2_presentOverlays_20 ?_
      refine wq_goto 4 rfl dX2_presentOverlays_23 ?_
      exact wq_pick [0, 1, 2] rfl (hI_4 y0 y1 x7 h3 (((q4.1 c6).2 x7 e8) hS5))
    · refine z_nm (y1 + 1) (fun x9 e10 => ?_)
      refine wq_iinc (y := x9) (ls' := [(0, vR y0), (1, vI x9), (2, vI y2)]) 1 rfl e10.symm (by rw [e10]; exact (q4.2 c6).1) (by decide) rfl dX2_presentOverlays_17 ?_
      refine z_nm (y2 + 1) (fun x11 e12 => ?_)
      refine wq_iinc (y := x11) (ls' := [(0, vR y0), (1, vI x9), (2, vI x11)]) 2 rfl e12.symm (by rw [e12]; exact ((q4.2 c6).2 x9 e10).1) (by decide) rfl dX2_presentOverlays_20 ?_
      refine wq_goto 4 rfl dX2_presentOverlays_23 ?_
      exact wq_pick [0, 1, 2] rfl (hI_4 y0 x9 x11 h3 ((((q4.2 c6).2 x9 e10).2 x11 e12) hS5))
theorem dX2_uses_0 : decode cX2_uses 0 = .ok (.iconst 0, 1) := by decide +kernel
theorem dX2_uses_1 : decode cX2_uses 1 = .ok (.istore_n 2, 1) := by decide +kernel
theorem dX2_uses_2 : decode cX2_uses 2 = .ok (.iload_n 2, 1) := by decide +kernel
theorem dX2_uses_3 : decode cX2_uses 3 = .ok (.iconst 4, 1) := by decide +kernel
theorem dX2_uses_4 : decode cX2_uses 4 = .ok (.if_icmp .ge 29, 3) := by decide +kernel
theorem dX2_uses_7 : decode cX2_uses 7 = .ok (.aload_n 0, 1) := by decide +kernel
theorem dX2_uses_8 : decode cX2_uses 8 = .ok (.iload_n 2, 1) := by decide +kernel
theorem dX2_uses_9 : decode cX2_uses 9 = .ok (.invokevirtual 27, 3) := by decide +kernel
theorem dX2_uses_12 : decode cX2_uses 12 = .ok (.ifCond .eq 15, 3) := by decide +kernel
theorem dX2_uses_15 : decode cX2_uses 15 = .ok (.aload_n 0, 1) := by decide +kernel
theorem dX2_uses_16 : decode cX2_uses 16 = .ok (.getfield 20, 3) := by decide +kernel
theorem dX2_uses_19 : decode cX2_uses 19 = .ok (.iload_n 2, 1) := by decide +kernel
theorem dX2_uses_20 : decode cX2_uses 20 = .ok (.iaload, 1) := by decide +kernel
theorem dX2_uses_21 : decode cX2_uses 21 = .ok (.iload_n 1, 1) := by decide +kernel
theorem dX2_uses_22 : decode cX2_uses 22 = .ok (.if_icmp .ne 5, 3) := by decide +kernel
theorem dX2_uses_25 : decode cX2_uses 25 = .ok (.iconst 1, 1) := by decide +kernel
theorem dX2_uses_26 : decode cX2_uses 26 = .ok (.ireturn, 1) := by decide +kernel
theorem dX2_uses_27 : decode cX2_uses 27 = .ok (.iinc 2 1, 3) := by decide +kernel
theorem dX2_uses_30 : decode cX2_uses 30 = .ok (.goto (-28), 3) := by decide +kernel
theorem dX2_uses_33 : decode cX2_uses 33 = .ok (.iconst 0, 1) := by decide +kernel
theorem dX2_uses_34 : decode cX2_uses 34 = .ok (.ireturn, 1) := by decide +kernel
theorem vc_X2_uses_0 {G : zG} {d : Nat} {Q : Option zV → zHp → Prop} (a : Nat) (hT_a : zT 369 a = (102, 3)) (p1 : Int) (h : zHp) (hS : zSh h) (hd : 1 ≤ d) (I_2 : Nat → Int → Int → zHp → Prop) (hI_2 : ∀ (y0 : Nat) (y1 : Int) (y2 : Int) (h' : zHp), I_2 y0 y1 y2 h' → wpN G d M_X2_uses 2 [(0, vR y0), (1, vI y1), (2, vI y2)] [] h' Q) 
    (hv : (zSh h → I_2 a p1 0 h)) : wpN G d M_X2_uses 0 [(0, vR a), (1, vI p1)] [] h Q := by
  refine wq_iconst (z := 0) (zlit rfl) dX2_uses_0 ?_
  refine wq_istore_n (ls' := [(0, vR a), (1, vI p1), (2, vI 0)]) rfl (by decide) rfl dX2_uses_1 ?_
  exact wq_pick [0, 1, 2] rfl (hI_2 a p1 0 h (hv hS))
theorem vc_X2_uses_2 {G : zG} {d : Nat} {Q : Option zV → zHp → Prop} (y0 : Nat) (hT_y0 : zT 369 y0 = (102, 3)) (y1 : Int) (y2 : Int) (h : zHp) (hS : zSh h) (hd : 1 ≤ d) (I_2 : Nat → Int → Int → zHp → Prop) (hI_2 : ∀ (y0 : Nat) (y1 : Int) (y2 : Int) (h' : zHp), I_2 y0 y1 y2 h' → wpN G d M_X2_uses 2 [(0, vR y0), (1, vI y1), (2, vI y2)] [] h' Q) 
    (hv : ((4 ≤ y2 → Q (some (vI 0)) h) ∧ (y2 < 4 → (wpN G (d - 1) M_X2_isPresent 0 (zar 0 [vR y0, vI y2]) [] h (qI (fun z2 h3 => zSh h3 ∧ ((z2 = 0 → ((-2147483648 ≤ y2 + 1 ∧ y2 + 1 ≤ 2147483647) ∧ ∀ x7 : Int, x7 = y2 + 1 → (zSh h3 → I_2 y0 y1 x7 h3))) ∧ (z2 ≠ 0 → (((0 : Int) ≤ y2 ∧ y2 < ((4 : Nat) : Int)) ∧ (((gI h3 (y0 + 3) y2.toNat) ≠ y1 → ((-2147483648 ≤ y2 + 1 ∧ y2 + 1 ≤ 2147483647) ∧ ∀ x10 : Int, x10 = y2 + 1 → (zSh h3 → I_2 y0 y1 x10 h3))) ∧ ((gI h3 (y0 + 3) y2.toNat) = y1 → Q (some (vI 1)) h3))))))))))) : wpN G d M_X2_uses 2 [(0, vR y0), (1, vI y1), (2, vI y2)] [] h Q := by
  refine wq_iload_n 2 rfl rfl dX2_uses_2 ?_
  refine wq_iconst (z := 4) (zlit rfl) dX2_uses_3 ?_
  refine wq_icmp_ge 33 rfl dX2_uses_4 (fun c1 => ?_) (fun c1 => ?_)
  · refine wq_iconst (z := 0) (zlit rfl) dX2_uses_33 ?_
    exact wp_zret (Or.inl rfl) rfl dX2_uses_34 (hv.1 c1)
  · refine wq_aload_n 0 rfl rfl dX2_uses_7 ?_
    refine wq_iload_n 2 rfl rfl dX2_uses_8 ?_
    refine wN_V (As := [vI y2]) vm_X2_isPresent lk_X2_27 hT_y0 rfl rfl (Nat.le_of_ble_eq_true rfl) (Nat.le_of_ble_eq_true rfl) (d' := d - 1) (by omega) dX2_uses_9 (hv.2 c1) (fun v9 h3 q4 => ?_)
    obtain ⟨z2, rfl, hS5, q4⟩ := q4
    refine wq_st (st' := [vI z2]) rfl ?_
    refine wq_if_eq 27 rfl dX2_uses_12 (fun c6 => ?_) (fun c6 => ?_)
    · refine z_nm (y2 + 1) (fun x7 e8 => ?_)
      refine wq_iinc (y := x7) (ls' := [(0, vR y0), (1, vI y1), (2, vI x7)]) 2 rfl e8.symm (by rw [e8]; exact (q4.1 c6).1) (by decide) rfl dX2_uses_27 ?_
      refine wq_goto 2 rfl dX2_uses_30 ?_
      exact wq_pick [0, 1, 2] rfl (hI_2 y0 y1 x7 h3 (((q4.1 c6).2 x7 e8) hS5))
    · refine wq_aload_n 0 rfl rfl dX2_uses_15 ?_
      refine wq_getR (r := (y0 + 3)) fk_X2_20 hT_y0 (fun _ _ _ => rfl) (sh_2_1 hS5 hT_y0) (by omega) dX2_uses_16 ?_
      refine wq_iload_n 2 rfl rfl dX2_uses_19 ?_
      refine wq_iald (zdoc1 hT_y0) (q4.2 c6).1.1 (q4.2 c6).1.2 dX2_uses_20 ?_
      refine wq_iload_n 1 rfl rfl dX2_uses_21 ?_
      refine wq_icmp_ne 27 rfl dX2_uses_22 (fun c9 => ?_) (fun c9 => ?_)
      · refine z_nm (y2 + 1) (fun x10 e11 => ?_)
        refine wq_iinc (y := x10) (ls' := [(0, vR y0), (1, vI y1), (2, vI x10)]) 2 rfl e11.symm (by rw [e11]; exact ((q4.2 c6).2.1 c9).1) (by decide) rfl dX2_uses_27 ?_
        refine wq_goto 2 rfl dX2_uses_30 ?_
        exact wq_pick [0, 1, 2] rfl (hI_2 y0 y1 x10 h3 ((((q4.2 c6).2.1 c9).2 x10 e11) hS5))
      · refine wq_iconst (z := 1) (zlit rfl) dX2_uses_25 ?_
        exact wp_zret (Or.inr rfl) rfl dX2_uses_26 ((q4.2 c6).2.2 c9)
theorem dX2_become_0 : decode cX2_become 0 = .ok (.aload_n 0, 1) := by decide +kernel
theorem dX2_become_1 : decode cX2_become 1 = .ok (.getfield 14, 3) := by decide +kernel
theorem dX2_become_4 : decode cX2_become 4 = .ok (.aload_n 1, 1) := by decide +kernel
theorem dX2_become_5 : decode cX2_become 5 = .ok (.getfield 14, 3) := by decide +kernel
theorem dX2_become_8 : decode cX2_become 8 = .ok (.iconst 0, 1) := by decide +kernel
theorem dX2_become_9 : decode cX2_become 9 = .ok (.aload_n 1, 1) := by decide +kernel
theorem dX2_become_10 : decode cX2_become 10 = .ok (.getfield 14, 3) := by decide +kernel
theorem dX2_become_13 : decode cX2_become 13 = .ok (.getfield 31, 3) := by decide +kernel
theorem dX2_become_16 : decode cX2_become 16 = .ok (.invokevirtual 35, 3) := by decide +kernel
theorem dX2_become_19 : decode cX2_become 19 = .ok (.iconst 0, 1) := by decide +kernel
theorem dX2_become_20 : decode cX2_become 20 = .ok (.istore_n 2, 1) := by decide +kernel
theorem dX2_become_21 : decode cX2_become 21 = .ok (.iload_n 2, 1) := by decide +kernel
theorem dX2_become_22 : decode cX2_become 22 = .ok (.iconst 4, 1) := by decide +kernel
theorem dX2_become_23 : decode cX2_become 23 = .ok (.if_icmp .ge 33, 3) := by decide +kernel
theorem dX2_become_26 : decode cX2_become 26 = .ok (.aload_n 0, 1) := by decide +kernel
theorem dX2_become_27 : decode cX2_become 27 = .ok (.getfield 20, 3) := by decide +kernel
theorem dX2_become_30 : decode cX2_become 30 = .ok (.iload_n 2, 1) := by decide +kernel
theorem dX2_become_31 : decode cX2_become 31 = .ok (.aload_n 1, 1) := by decide +kernel
theorem dX2_become_32 : decode cX2_become 32 = .ok (.getfield 20, 3) := by decide +kernel
theorem dX2_become_35 : decode cX2_become 35 = .ok (.iload_n 2, 1) := by decide +kernel
theorem dX2_become_36 : decode cX2_become 36 = .ok (.iaload, 1) := by decide +kernel
theorem dX2_become_37 : decode cX2_become 37 = .ok (.iastore, 1) := by decide +kernel
theorem dX2_become_38 : decode cX2_become 38 = .ok (.aload_n 0, 1) := by decide +kernel
theorem dX2_become_39 : decode cX2_become 39 = .ok (.getfield 24, 3) := by decide +kernel
theorem dX2_become_42 : decode cX2_become 42 = .ok (.iload_n 2, 1) := by decide +kernel
theorem dX2_become_43 : decode cX2_become 43 = .ok (.aload_n 1, 1) := by decide +kernel
theorem dX2_become_44 : decode cX2_become 44 = .ok (.getfield 24, 3) := by decide +kernel
theorem dX2_become_47 : decode cX2_become 47 = .ok (.iload_n 2, 1) := by decide +kernel
theorem dX2_become_48 : decode cX2_become 48 = .ok (.iaload, 1) := by decide +kernel
theorem dX2_become_49 : decode cX2_become 49 = .ok (.iastore, 1) := by decide +kernel
theorem dX2_become_50 : decode cX2_become 50 = .ok (.iinc 2 1, 3) := by decide +kernel
theorem dX2_become_53 : decode cX2_become 53 = .ok (.goto (-32), 3) := by decide +kernel
theorem dX2_become_56 : decode cX2_become 56 = .ok (.return_, 1) := by decide +kernel
theorem vc_X2_become_0 {G : zG} {d : Nat} {Q : Option zV → zHp → Prop} (a : Nat) (hT_a : zT 369 a = (102, 3)) (p1 : Nat) (hT_p1 : zT 369 p1 = (102, 3)) (h : zHp) (hS : zSh h) (hd : 2 ≤ d) (I_21 : Nat → Nat → Int → zHp → Prop) (hI_21 : ∀ (y0 : Nat) (y1 : Nat) (y2 : Int) (h' : zHp), I_21 y0 y1 y2 h' → wpN G d M_X2_become 21 [(0, vR y0), (1, vR y1), (2, vI y2)] [] h' Q) 
    (hv : (wpN G (d - 1) M_X0_become 0 (zar 0 [vR (a + 1), vR (p1 + 1), vI 0, vI (gI h (p1 + 1) 1)]) [] h (qV (fun h2 => zSh h2 ∧ (zSh h2 → I_21 a p1 0 h2))))) : wpN G d M_X2_become 0 [(0, vR a), (1, vR p1)] [] h Q := by
  refine wq_aload_n 0 rfl rfl dX2_become_0 ?_
  refine wq_getR (r := (a + 1)) fk_X2_14 hT_a (fun _ _ _ => rfl) (sh_2_0 hS hT_a) (by omega) dX2_become_1 ?_
  refine wq_aload_n 1 rfl rfl dX2_become_4 ?_
  refine wq_getR (r := (p1 + 1)) fk_X2_14 hT_p1 (fun _ _ _ => rfl) (sh_2_0 hS hT_p1) (by omega) dX2_become_5 ?_
  refine wq_iconst (z := 0) (zlit rfl) dX2_become_8 ?_
  refine wq_aload_n 1 rfl rfl dX2_become_9 ?_
  refine wq_getR (r := (p1 + 1)) fk_X2_14 hT_p1 (fun _ _ _ => rfl) (sh_2_0 hS hT_p1) (by omega) dX2_become_10 ?_
  refine wq_getI fk_X2_31 (zdoc0 hT_p1) (fun _ _ _ => rfl) dX2_become_13 ?_
  refine wN_V (As := [vR (p1 + 1), vI 0, vI (gI h (p1 + 1) 1)]) vm_X0_become lk_X2_35 (zdoc0 hT_a) rfl rfl (Nat.le_of_ble_eq_true rfl) (Nat.le_of_ble_eq_true rfl) (d' := d - 1) (by omega) dX2_become_16 hv (fun v9 h2 q3 => ?_)
  obtain ⟨rfl, hS4, q3⟩ := q3
  refine wq_st (st' := []) rfl ?_
  refine wq_iconst (z := 0) (zlit rfl) dX2_become_19 ?_
  refine wq_istore_n (ls' := [(0, vR a), (1, vR p1), (2, vI 0)]) rfl (by decide) rfl dX2_become_20 ?_
  exact wq_pick [0, 1, 2] rfl (hI_21 a p1 0 h2 (q3 hS4))
theorem vc_X2_become_21 {G : zG} {d : Nat} {Q : Option zV → zHp → Prop} (y0 : Nat) (hT_y0 : zT 369 y0 = (102, 3)) (y1 : Nat) (hT_y1 : zT 369 y1 = (102, 3)) (y2 : Int) (h : zHp) (hS : zSh h) (hd : 2 ≤ d) (I_21 : Nat → Nat → Int → zHp → Prop) (hI_21 : ∀ (y0 : Nat) (y1 : Nat) (y2 : Int) (h' : zHp), I_21 y0 y1 y2 h' → wpN G d M_X2_become 21 [(0, vR y0), (1, vR y1), (2, vI y2)] [] h' Q) 
    (hv : ((4 ≤ y2 → Q none h) ∧ (y2 < 4 → (((0 : Int) ≤ y2 ∧ y2 < ((4 : Nat) : Int)) ∧ (((0 : Int) ≤ y2 ∧ y2 < ((4 : Nat) : Int)) ∧ (∀ h2 : zHp, h2 = sI h (y0 + 3) y2.toNat (gI h (y1 + 3) y2.toNat) → (((0 : Int) ≤ y2 ∧ y2 < ((4 : Nat) : Int)) ∧ (((0 : Int) ≤ y2 ∧ y2 < ((4 : Nat) : Int)) ∧ (∀ h4 : zHp, h4 = sI h2 (y0 + 4) y2.toNat (gI h2 (y1 + 4) y2.toNat) → ((-2147483648 ≤ y2 + 1 ∧ y2 + 1 ≤ 2147483647) ∧ ∀ x6 : Int, x6 = y2 + 1 → (zSh h4 → I_21 y0 y1 x6 h4))))))))))) : wpN G d M_X2_become 21 [(0, vR y0), (1, vR y1), (2, vI y2)] [] h Q := by
  refine wq_iload_n 2 rfl rfl dX2_become_21 ?_
  refine wq_iconst (z := 4) (zlit rfl) dX2_become_22 ?_
  refine wq_icmp_ge 56 rfl dX2_become_23 (fun c1 => ?_) (fun c1 => ?_)
  · exact wp_vret rfl dX2_become_56 (hv.1 c1)
  · refine wq_aload_n 0 rfl rfl dX2_become_26 ?_
    refine wq_getR (r := (y0 + 3)) fk_X2_20 hT_y0 (fun _ _ _ => rfl) (sh_2_1 hS hT_y0) (by omega) dX2_become_27 ?_
    refine wq_iload_n 2 rfl rfl dX2_become_30 ?_
    refine wq_aload_n 1 rfl rfl dX2_become_31 ?_
    refine wq_getR (r := (y1 + 3)) fk_X2_20 hT_y1 (fun _ _ _ => rfl) (sh_2_1 hS hT_y1) (by omega) dX2_become_32 ?_
    refine wq_iload_n 2 rfl rfl dX2_become_35 ?_
    refine wq_iald (zdoc1 hT_y1) (hv.2 c1).1.1 (hv.2 c1).1.2 dX2_become_36 ?_
    refine wq_iast (zdoc1 hT_y0) (hv.2 c1).2.1.1 (hv.2 c1).2.1.2 dX2_become_37 ?_
    refine wq_toph (fun h2 e3 => ?_)
    have sh2 : zSh h2 := zSh_of e3 hS
    refine wq_aload_n 0 rfl rfl dX2_become_38 ?_
    refine wq_getR (r := (y0 + 4)) fk_X2_24 hT_y0 (fun _ _ _ => rfl) (sh_2_2 sh2 hT_y0) (by omega) dX2_become_39 ?_
    refine wq_iload_n 2 rfl rfl dX2_become_42 ?_
    refine wq_aload_n 1 rfl rfl dX2_become_43 ?_
    refine wq_getR (r := (y1 + 4)) fk_X2_24 hT_y1 (fun _ _ _ => rfl) (sh_2_2 sh2 hT_y1) (by omega) dX2_become_44 ?_
    refine wq_iload_n 2 rfl rfl dX2_become_47 ?_
    refine wq_iald (zdoc2 hT_y1) ((hv.2 c1).2.2 h2 e3).1.1 ((hv.2 c1).2.2 h2 e3).1.2 dX2_become_48 ?_
    refine wq_iast (zdoc2 hT_y0) ((hv.2 c1).2.2 h2 e3).2.1.1 ((hv.2 c1).2.2 h2 e3).2.1.2 dX2_become_49 ?_
    refine wq_toph (fun h4 e5 => ?_)
    have sh4 : zSh h4 := zSh_of e5 sh2
    refine z_nm (y2 + 1) (fun x6 e7 => ?_)
    refine wq_iinc (y := x6) (ls' := [(0, vR y0), (1, vR y1), (2, vI x6)]) 2 rfl e7.symm (by rw [e7]; exact (((hv.2 c1).2.2 h2 e3).2.2 h4 e5).1) (by decide) rfl dX2_become_50 ?_
    refine wq_goto 21 rfl dX2_become_53 ?_
    exact wq_pick [0, 1, 2] rfl (hI_21 y0 y1 x6 h4 (((((hv.2 c1).2.2 h2 e3).2.2 h4 e5).2 x6 e7) sh4))
theorem dX2_openGap_0 : decode cX2_openGap 0 = .ok (.aload_n 0, 1) := by decide +kernel
theorem dX2_openGap_1 : decode cX2_openGap 1 = .ok (.getfield 14, 3) := by decide +kernel
theorem dX2_openGap_4 : decode cX2_openGap 4 = .ok (.iload_n 1, 1) := by decide +kernel
theorem dX2_openGap_5 : decode cX2_openGap 5 = .ok (.iload_n 2, 1) := by decide +kernel
theorem dX2_openGap_6 : decode cX2_openGap 6 = .ok (.invokevirtual 39, 3) := by decide +kernel
theorem dX2_openGap_9 : decode cX2_openGap 9 = .ok (.iconst 0, 1) := by decide +kernel
theorem dX2_openGap_10 : decode cX2_openGap 10 = .ok (.istore_n 3, 1) := by decide +kernel
theorem dX2_openGap_11 : decode cX2_openGap 11 = .ok (.iload_n 3, 1) := by decide +kernel
theorem dX2_openGap_12 : decode cX2_openGap 12 = .ok (.iconst 4, 1) := by decide +kernel
theorem dX2_openGap_13 : decode cX2_openGap 13 = .ok (.if_icmp .ge 29, 3) := by decide +kernel
theorem dX2_openGap_16 : decode cX2_openGap 16 = .ok (.aload_n 0, 1) := by decide +kernel
theorem dX2_openGap_17 : decode cX2_openGap 17 = .ok (.getfield 24, 3) := by decide +kernel
theorem dX2_openGap_20 : decode cX2_openGap 20 = .ok (.iload_n 3, 1) := by decide +kernel
theorem dX2_openGap_21 : decode cX2_openGap 21 = .ok (.iaload, 1) := by decide +kernel
theorem dX2_openGap_22 : decode cX2_openGap 22 = .ok (.iload_n 1, 1) := by decide +kernel
theorem dX2_openGap_23 : decode cX2_openGap 23 = .ok (.if_icmp .le 13, 3) := by decide +kernel
theorem dX2_openGap_26 : decode cX2_openGap 26 = .ok (.aload_n 0, 1) := by decide +kernel
theorem dX2_openGap_27 : decode cX2_openGap 27 = .ok (.getfield 24, 3) := by decide +kernel
theorem dX2_openGap_30 : decode cX2_openGap 30 = .ok (.iload_n 3, 1) := by decide +kernel
theorem dX2_openGap_31 : decode cX2_openGap 31 = .ok (.dup2, 1) := by decide +kernel
theorem dX2_openGap_32 : decode cX2_openGap 32 = .ok (.iaload, 1) := by decide +kernel
theorem dX2_openGap_33 : decode cX2_openGap 33 = .ok (.iload_n 2, 1) := by decide +kernel
theorem dX2_openGap_34 : decode cX2_openGap 34 = .ok (.iadd, 1) := by decide +kernel
theorem dX2_openGap_35 : decode cX2_openGap 35 = .ok (.iastore, 1) := by decide +kernel
theorem dX2_openGap_36 : decode cX2_openGap 36 = .ok (.iinc 3 1, 3) := by decide +kernel
theorem dX2_openGap_39 : decode cX2_openGap 39 = .ok (.goto (-28), 3) := by decide +kernel
theorem dX2_openGap_42 : decode cX2_openGap 42 = .ok (.return_, 1) := by decide +kernel
theorem vc_X2_openGap_0 {G : zG} {d : Nat} {Q : Option zV → zHp → Prop} (a : Nat) (hT_a : zT 369 a = (102, 3)) (p1 : Int) (p2 : Int) (h : zHp) (hS : zSh h) (hd : 2 ≤ d) (I_11 : Nat → Int → Int → Int → zHp → Prop) (hI_11 : ∀ (y0 : Nat) (y1 : Int) (y2 : Int) (y3 : Int) (h' : zHp), I_11 y0 y1 y2 y3 h' → wpN G d M_X2_openGap 11 [(0, vR y0), (1, vI y1), (2, vI y2), (3, vI y3)] [] h' Q) 
    (hv : (wpN G (d - 1) M_X0_openGap 0 (zar 0 [vR (a + 1), vI p1, vI p2]) [] h (qV (fun h2 => zSh h2 ∧ (zSh h2 → I_11 a p1 p2 0 h2))))) : wpN G d M_X2_openGap 0 [(0, vR a), (1, vI p1), (2, vI p2)] [] h Q := by
  refine wq_aload_n 0 rfl rfl dX2_openGap_0 ?_
  refine wq_getR (r := (a + 1)) fk_X2_14 hT_a (fun _ _ _ => rfl) (sh_2_0 hS hT_a) (by omega) dX2_openGap_1 ?_
  refine wq_iload_n 1 rfl rfl dX2_openGap_4 ?_
  refine wq_iload_n 2 rfl rfl dX2_openGap_5 ?_
  refine wN_V (As := [vI p1, vI p2]) vm_X0_openGap lk_X2_39 (zdoc0 hT_a) rfl rfl (Nat.le_of_ble_eq_true rfl) (Nat.le_of_ble_eq_true rfl) (d' := d - 1) (by omega) dX2_openGap_6 hv (fun v9 h2 q3 => ?_)
  obtain ⟨rfl, hS4, q3⟩ := q3
  refine wq_st (st' := []) rfl ?_
  refine wq_iconst (z := 0) (zlit rfl) dX2_openGap_9 ?_
  refine wq_istore_n (ls' := [(0, vR a), (1, vI p1), (2, vI p2), (3, vI 0)]) rfl (by decide) rfl dX2_openGap_10 ?_
  exact wq_pick [0, 1, 2, 3] rfl (hI_11 a p1 p2 0 h2 (q3 hS4))
theorem vc_X2_openGap_11 {G : zG} {d : Nat} {Q : Option zV → zHp → Prop} (y0 : Nat) (hT_y0 : zT 369 y0 = (102, 3)) (y1 : Int) (y2 : Int) (y3 : Int) (h : zHp) (hS : zSh h) (hd : 2 ≤ d) (I_11 : Nat → Int → Int → Int → zHp → Prop) (hI_11 : ∀ (y0 : Nat) (y1 : Int) (y2 : Int) (y3 : Int) (h' : zHp), I_11 y0 y1 y2 y3 h' → wpN G d M_X2_openGap 11 [(0, vR y0), (1, vI y1), (2, vI y2), (3, vI y3)] [] h' Q) 
    (hv : ((4 ≤ y3 → Q none h) ∧ (y3 < 4 → (((0 : Int) ≤ y3 ∧ y3 < ((4 : Nat) : Int)) ∧ (((gI h (y0 + 4) y3.toNat) ≤ y1 → ((-2147483648 ≤ y3 + 1 ∧ y3 + 1 ≤ 2147483647) ∧ ∀ x3 : Int, x3 = y3 + 1 → (zSh h → I_11 y0 y1 y2 x3 h))) ∧ (y1 < (gI h (y0 + 4) y3.toNat) → (((0 : Int) ≤ y3 ∧ y3 < ((4 : Nat) : Int)) ∧ ((-2147483648 ≤ (gI h (y0 + 4) y3.toNat) + y2 ∧ (gI h (y0 + 4) y3.toNat) + y2 ≤ 2147483647) ∧ (((0 : Int) ≤ y3 ∧ y3 < ((4 : Nat) : Int)) ∧ (∀ h5 : zHp, h5 = sI h (y0 + 4) y3.toNat ((gI h (y0 + 4) y3.toNat) + y2) → ((-2147483648 ≤ y3 + 1 ∧ y3 + 1 ≤ 2147483647) ∧ ∀ x7 : Int, x7 = y3 + 1 → (zSh h5 → I_11 y0 y1 y2 x7 h5)))))))))))) : wpN G d M_X2_openGap 11 [(0, vR y0), (1, vI y1), (2, vI y2), (3, vI y3)] [] h Q := by
  refine wq_iload_n 3 rfl rfl dX2_openGap_11 ?_
  refine wq_iconst (z := 4) (zlit rfl) dX2_openGap_12 ?_
  refine wq_icmp_ge 42 rfl dX2_openGap_13 (fun c1 => ?_) (fun c1 => ?_)
  · exact wp_vret rfl dX2_openGap_42 (hv.1 c1)
  · refine wq_aload_n 0 rfl rfl dX2_openGap_16 ?_
    refine wq_getR (r := (y0 + 4)) fk_X2_24 hT_y0 (fun _ _ _ => rfl) (sh_2_2 hS hT_y0) (by omega) dX2_openGap_17 ?_
    refine wq_iload_n 3 rfl rfl dX2_openGap_20 ?_
    refine wq_iald (zdoc2 hT_y0) (hv.2 c1).1.1 (hv.2 c1).1.2 dX2_openGap_21 ?_
    refine wq_iload_n 1 rfl rfl dX2_openGap_22 ?_
    refine wq_icmp_le 36 rfl dX2_openGap_23 (fun c2 => ?_) (fun c2 => ?_)
    · refine z_nm (y3 + 1) (fun x3 e4 => ?_)
      refine wq_iinc (y := x3) (ls' := [(0, vR y0), (1, vI y1), (2, vI y2), (3, vI x3)]) 3 rfl e4.symm (by rw [e4]; exact ((hv.2 c1).2.1 c2).1) (by decide) rfl dX2_openGap_36 ?_
      refine wq_goto 11 rfl dX2_openGap_39 ?_
      exact wq_pick [0, 1, 2, 3] rfl (hI_11 y0 y1 y2 x3 h ((((hv.2 c1).2.1 c2).2 x3 e4) hS))
    · refine wq_aload_n 0 rfl rfl dX2_openGap_26 ?_
      refine wq_getR (r := (y0 + 4)) fk_X2_24 hT_y0 (fun _ _ _ => rfl) (sh_2_2 hS hT_y0) (by omega) dX2_openGap_27 ?_
      refine wq_iload_n 3 rfl rfl dX2_openGap_30 ?_
      refine wq_dup2 rfl rfl dX2_openGap_31 ?_
      refine wq_iald (zdoc2 hT_y0) ((hv.2 c1).2.2 c2).1.1 ((hv.2 c1).2.2 c2).1.2 dX2_openGap_32 ?_
      refine wq_iload_n 2 rfl rfl dX2_openGap_33 ?_
      refine wq_iadd ((hv.2 c1).2.2 c2).2.1 dX2_openGap_34 ?_
      refine wq_iast (zdoc2 hT_y0) ((hv.2 c1).2.2 c2).2.2.1.1 ((hv.2 c1).2.2 c2).2.2.1.2 dX2_openGap_35 ?_
      refine wq_toph (fun h5 e6 => ?_)
      have sh5 : zSh h5 := zSh_of e6 hS
      refine z_nm (y3 + 1) (fun x7 e8 => ?_)
      refine wq_iinc (y := x7) (ls' := [(0, vR y0), (1, vI y1), (2, vI y2), (3, vI x7)]) 3 rfl e8.symm (by rw [e8]; exact (((hv.2 c1).2.2 c2).2.2.2 h5 e6).1) (by decide) rfl dX2_openGap_36 ?_
      refine wq_goto 11 rfl dX2_openGap_39 ?_
      exact wq_pick [0, 1, 2, 3] rfl (hI_11 y0 y1 y2 x7 h5 (((((hv.2 c1).2.2 c2).2.2.2 h5 e6).2 x7 e8) sh5))
theorem dX2_closeGap_0 : decode cX2_closeGap 0 = .ok (.aload_n 0, 1) := by decide +kernel
theorem dX2_closeGap_1 : decode cX2_closeGap 1 = .ok (.getfield 14, 3) := by decide +kernel
theorem dX2_closeGap_4 : decode cX2_closeGap 4 = .ok (.iload_n 1, 1) := by decide +kernel
theorem dX2_closeGap_5 : decode cX2_closeGap 5 = .ok (.iload_n 2, 1) := by decide +kernel
theorem dX2_closeGap_6 : decode cX2_closeGap 6 = .ok (.invokevirtual 43, 3) := by decide +kernel
theorem dX2_closeGap_9 : decode cX2_closeGap 9 = .ok (.iconst 0, 1) := by decide +kernel
theorem dX2_closeGap_10 : decode cX2_closeGap 10 = .ok (.istore_n 3, 1) := by decide +kernel
theorem dX2_closeGap_11 : decode cX2_closeGap 11 = .ok (.iload_n 3, 1) := by decide +kernel
theorem dX2_closeGap_12 : decode cX2_closeGap 12 = .ok (.iconst 4, 1) := by decide +kernel
theorem dX2_closeGap_13 : decode cX2_closeGap 13 = .ok (.if_icmp .ge 37, 3) := by decide +kernel
theorem dX2_closeGap_16 : decode cX2_closeGap 16 = .ok (.aload_n 0, 1) := by decide +kernel
theorem dX2_closeGap_17 : decode cX2_closeGap 17 = .ok (.getfield 24, 3) := by decide +kernel
theorem dX2_closeGap_20 : decode cX2_closeGap 20 = .ok (.iload_n 3, 1) := by decide +kernel
theorem dX2_closeGap_21 : decode cX2_closeGap 21 = .ok (.iaload, 1) := by decide +kernel
theorem dX2_closeGap_22 : decode cX2_closeGap 22 = .ok (.iload_n 1, 1) := by decide +kernel
theorem dX2_closeGap_23 : decode cX2_closeGap 23 = .ok (.if_icmp .le 21, 3) := by decide +kernel
theorem dX2_closeGap_26 : decode cX2_closeGap 26 = .ok (.aload_n 0, 1) := by decide +kernel
theorem dX2_closeGap_27 : decode cX2_closeGap 27 = .ok (.getfield 24, 3) := by decide +kernel
theorem dX2_closeGap_30 : decode cX2_closeGap 30 = .ok (.iload_n 3, 1) := by decide +kernel
theorem dX2_closeGap_31 : decode cX2_closeGap 31 = .ok (.iload_n 1, 1) := by decide +kernel
theorem dX2_closeGap_32 : decode cX2_closeGap 32 = .ok (.aload_n 0, 1) := by decide +kernel
theorem dX2_closeGap_33 : decode cX2_closeGap 33 = .ok (.getfield 24, 3) := by decide +kernel
theorem dX2_closeGap_36 : decode cX2_closeGap 36 = .ok (.iload_n 3, 1) := by decide +kernel
theorem dX2_closeGap_37 : decode cX2_closeGap 37 = .ok (.iaload, 1) := by decide +kernel
theorem dX2_closeGap_38 : decode cX2_closeGap 38 = .ok (.iload_n 2, 1) := by decide +kernel
theorem dX2_closeGap_39 : decode cX2_closeGap 39 = .ok (.isub, 1) := by decide +kernel
theorem dX2_closeGap_40 : decode cX2_closeGap 40 = .ok (.invokestatic 46, 3) := by decide +kernel
theorem dX2_closeGap_43 : decode cX2_closeGap 43 = .ok (.iastore, 1) := by decide +kernel
theorem dX2_closeGap_44 : decode cX2_closeGap 44 = .ok (.iinc 3 1, 3) := by decide +kernel
theorem dX2_closeGap_47 : decode cX2_closeGap 47 = .ok (.goto (-36), 3) := by decide +kernel
theorem dX2_closeGap_50 : decode cX2_closeGap 50 = .ok (.return_, 1) := by decide +kernel
theorem vc_X2_closeGap_0 {G : zG} {d : Nat} {Q : Option zV → zHp → Prop} (a : Nat) (hT_a : zT 369 a = (102, 3)) (p1 : Int) (p2 : Int) (h : zHp) (hS : zSh h) (hd : 2 ≤ d) (I_11 : Nat → Int → Int → Int → zHp → Prop) (hI_11 : ∀ (y0 : Nat) (y1 : Int) (y2 : Int) (y3 : Int) (h' : zHp), I_11 y0 y1 y2 y3 h' → wpN G d M_X2_closeGap 11 [(0, vR y0), (1, vI y1), (2, vI y2), (3, vI y3)] [] h' Q) 
    (hv : (wpN G (d - 1) M_X0_closeGap 0 (zar 0 [vR (a + 1), vI p1, vI p2]) [] h (qV (fun h2 => zSh h2 ∧ (zSh h2 → I_11 a p1 p2 0 h2))))) : wpN G d M_X2_closeGap 0 [(0, vR a), (1, vI p1), (2, vI p2)] [] h Q := by
  refine wq_aload_n 0 rfl rfl dX2_closeGap_0 ?_
  refine wq_getR (r := (a + 1)) fk_X2_14 hT_a (fun _ _ _ => rfl) (sh_2_0 hS hT_a) (by omega) dX2_closeGap_1 ?_
  refine wq_iload_n 1 rfl rfl dX2_closeGap_4 ?_
  refine wq_iload_n 2 rfl rfl dX2_closeGap_5 ?_
  refine wN_V (As := [vI p1, vI p2]) vm_X0_closeGap lk_X2_43 (zdoc0 hT_a) rfl rfl (Nat.le_of_ble_eq_true rfl) (Nat.le_of_ble_eq_true rfl) (d' := d - 1) (by omega) dX2_closeGap_6 hv (fun v9 h2 q3 => ?_)
  obtain ⟨rfl, hS4, q3⟩ := q3
  refine wq_st (st' := []) rfl ?_
  refine wq_iconst (z := 0) (zlit rfl) dX2_closeGap_9 ?_
  refine wq_istore_n (ls' := [(0, vR a), (1, vI p1), (2, vI p2), (3, vI 0)]) rfl (by decide) rfl dX2_closeGap_10 ?_
  exact wq_pick [0, 1, 2, 3] rfl (hI_11 a p1 p2 0 h2 (q3 hS4))
theorem vc_X2_closeGap_11 {G : zG} {d : Nat} {Q : Option zV → zHp → Prop} (y0 : Nat) (hT_y0 : zT 369 y0 = (102, 3)) (y1 : Int) (y2 : Int) (y3 : Int) (h : zHp) (hS : zSh h) (hd : 2 ≤ d) (I_11 : Nat → Int → Int → Int → zHp → Prop) (hI_11 : ∀ (y0 : Nat) (y1 : Int) (y2 : Int) (y3 : Int) (h' : zHp), I_11 y0 y1 y2 y3 h' → wpN G d M_X2_closeGap 11 [(0, vR y0), (1, vI y1), (2, vI y2), (3, vI y3)] [] h' Q) 
    (hv : ((4 ≤ y3 → Q none h) ∧ (y3 < 4 → (((0 : Int) ≤ y3 ∧ y3 < ((4 : Nat) : Int)) ∧ (((gI h (y0 + 4) y3.toNat) ≤ y1 → ((-2147483648 ≤ y3 + 1 ∧ y3 + 1 ≤ 2147483647) ∧ ∀ x3 : Int, x3 = y3 + 1 → (zSh h → I_11 y0 y1 y2 x3 h))) ∧ (y1 < (gI h (y0 + 4) y3.toNat) → (((0 : Int) ≤ y3 ∧ y3 < ((4 : Nat) : Int)) ∧ ((-2147483648 ≤ (gI h (y0 + 4) y3.toNat) - y2 ∧ (gI h (y0 + 4) y3.toNat) - y2 ≤ 2147483647) ∧ (wpN G (d - 1) M_J9_max_7cf53 0 (zar 0 [vI y1, vI ((gI h (y0 + 4) y3.toNat) - y2)]) [] h (qI (fun z5 h6 => zSh h6 ∧ (((0 : Int) ≤ y3 ∧ y3 < ((4 : Nat) : Int)) ∧ (∀ h9 : zHp, h9 = sI h6 (y0 + 4) y3.toNat z5 → ((-2147483648 ≤ y3 + 1 ∧ y3 + 1 ≤ 2147483647) ∧ ∀ x11 : Int, x11 = y3 + 1 → (zSh h9 → I_11 y0 y1 y2 x11 h9))))))))))))))) : wpN G d M_X2_closeGap 11 [(0, vR y0), (1, vI y1), (2, vI y2), (3, vI y3)] [] h Q := by
  refine wq_iload_n 3 rfl rfl dX2_closeGap_11 ?_
  refine wq_iconst (z := 4) (zlit rfl) dX2_closeGap_12 ?_
  refine wq_icmp_ge 50 rfl dX2_closeGap_13 (fun c1 => ?_) (fun c1 => ?_)
  · exact wp_vret rfl dX2_closeGap_50 (hv.1 c1)
  · refine wq_aload_n 0 rfl rfl dX2_closeGap_16 ?_
    refine wq_getR (r := (y0 + 4)) fk_X2_24 hT_y0 (fun _ _ _ => rfl) (sh_2_2 hS hT_y0) (by omega) dX2_closeGap_17 ?_
    refine wq_iload_n 3 rfl rfl dX2_closeGap_20 ?_
    refine wq_iald (zdoc2 hT_y0) (hv.2 c1).1.1 (hv.2 c1).1.2 dX2_closeGap_21 ?_
    refine wq_iload_n 1 rfl rfl dX2_closeGap_22 ?_
    refine wq_icmp_le 44 rfl dX2_closeGap_23 (fun c2 => ?_) (fun c2 => ?_)
    · refine z_nm (y3 + 1) (fun x3 e4 => ?_)
      refine wq_iinc (y := x3) (ls' := [(0, vR y0), (1, vI y1), (2, vI y2), (3, vI x3)]) 3 rfl e4.symm (by rw [e4]; exact ((hv.2 c1).2.1 c2).1) (by decide) rfl dX2_closeGap_44 ?_
      refine wq_goto 11 rfl dX2_closeGap_47 ?_
      exact wq_pick [0, 1, 2, 3] rfl (hI_11 y0 y1 y2 x3 h ((((hv.2 c1).2.1 c2).2 x3 e4) hS))
    · refine wq_aload_n 0 rfl rfl dX2_closeGap_26 ?_
      refine wq_getR (r := (y0 + 4)) fk_X2_24 hT_y0 (fun _ _ _ => rfl) (sh_2_2 hS hT_y0) (by omega) dX2_closeGap_27 ?_
      refine wq_iload_n 3 rfl rfl dX2_closeGap_30 ?_
      refine wq_iload_n 1 rfl rfl dX2_closeGap_31 ?_
      refine wq_aload_n 0 rfl rfl dX2_closeGap_32 ?_
      refine wq_getR (r := (y0 + 4)) fk_X2_24 hT_y0 (fun _ _ _ => rfl) (sh_2_2 hS hT_y0) (by omega) dX2_closeGap_33 ?_
      refine wq_iload_n 3 rfl rfl dX2_closeGap_36 ?_
      refine wq_iald (zdoc2 hT_y0) ((hv.2 c1).2.2 c2).1.1 ((hv.2 c1).2.2 c2).1.2 dX2_closeGap_37 ?_
      refine wq_iload_n 2 rfl rfl dX2_closeGap_38 ?_
      refine wq_isub ((hv.2 c1).2.2 c2).2.1 dX2_closeGap_39 ?_
      refine wN_S (As := [vI y1, vI ((gI h (y0 + 4) y3.toNat) - y2)]) md_J9_max_7cf53 ms_J9_max_7cf53 lk_X2_46 rfl rfl (Nat.le_of_ble_eq_true rfl) (Nat.le_of_ble_eq_true rfl) (d' := d - 1) (by omega) dX2_closeGap_40 ((hv.2 c1).2.2 c2).2.2 (fun v9 h6 q7 => ?_)
      obtain ⟨z5, rfl, hS8, q7⟩ := q7
      refine wq_st (st' := [vI z5, vI y3, vR (y0 + 4)]) rfl ?_
      refine wq_iast (zdoc2 hT_y0) q7.1.1 q7.1.2 dX2_closeGap_43 ?_
      refine wq_toph (fun h9 e10 => ?_)
      have sh9 : zSh h9 := zSh_of e10 hS8
      refine z_nm (y3 + 1) (fun x11 e12 => ?_)
      refine wq_iinc (y := x11) (ls' := [(0, vR y0), (1, vI y1), (2, vI y2), (3, vI x11)]) 3 rfl e12.symm (by rw [e12]; exact (q7.2 h9 e10).1) (by decide) rfl dX2_closeGap_44 ?_
      refine wq_goto 11 rfl dX2_closeGap_47 ?_
      exact wq_pick [0, 1, 2, 3] rfl (hI_11 y0 y1 y2 x11 h9 (((q7.2 h9 e10).2 x11 e12) sh9))
