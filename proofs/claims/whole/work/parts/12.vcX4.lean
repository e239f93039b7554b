theorem dX4_keep_0 : decode cX4_keep 0 = .ok (.aload_n 0, 1) := by decide +kernel
theorem dX4_keep_1 : decode cX4_keep 1 = .ok (.getfield 15, 3) := by decide +kernel
theorem dX4_keep_4 : decode cX4_keep 4 = .ok (.aload_n 0, 1) := by decide +kernel
theorem dX4_keep_5 : decode cX4_keep 5 = .ok (.getfield 20, 3) := by decide +kernel
theorem dX4_keep_8 : decode cX4_keep 8 = .ok (.aaload, 1) := by decide +kernel
theorem dX4_keep_9 : decode cX4_keep 9 = .ok (.aload_n 0, 1) := by decide +kernel
theorem dX4_keep_10 : decode cX4_keep 10 = .ok (.getfield 7, 3) := by decide +kernel
theorem dX4_keep_13 : decode cX4_keep 13 = .ok (.invokevirtual 27, 3) := by decide +kernel
theorem dX4_keep_16 : decode cX4_keep 16 = .ok (.return_, 1) := by decide +kernel
theorem vc_X4_keep_0 {G : zG} {d : Nat} {Q : Option zV → zHp → Prop}  (h : zHp) (hS : zSh h) (hd : 3 ≤ d)  
    (hv : (((0 : Int) ≤ (gI h 13 2) ∧ (gI h 13 2) < ((13 : Nat) : Int)) ∧ (zT 369 (gR h 14 (gI h 13 2).toNat) = (102, 3) ∧ (wpN G (d - 1) M_X2_become 0 (zar 0 [vR (gR h 14 (gI h 13 2).toNat), vR 8]) [] h (qV (fun h2 => zSh h2 ∧ Q none h2)))))) : wpN G d M_X4_keep 0 [(0, vR 13)] [] h Q := by
  refine wq_aload_n 0 rfl rfl dX4_keep_0 ?_
  refine wq_getR fk_X4_15 tT_13 (fun _ _ _ => rfl) (sh_4_1 hS) (by decide) dX4_keep_1 ?_
  refine wq_aload_n 0 rfl rfl dX4_keep_4 ?_
  refine wq_getI fk_X4_20 tT_13 (fun _ _ _ => rfl) dX4_keep_5 ?_
  refine wq_aald tT_14 (by decide) (by decide) rfl hv.1.1 hv.1.2 rfl (zT_nz hv.2.1 (by decide)) dX4_keep_8 ?_
  refine wq_aload_n 0 rfl rfl dX4_keep_9 ?_
  refine wq_getR fk_X4_7 tT_13 (fun _ _ _ => rfl) (sh_4_0 hS) (by decide) dX4_keep_10 ?_
  refine wN_V (As := [vR 8]) vm_X2_become lk_X4_27 hv.2.1 rfl rfl (Nat.le_of_ble_eq_true rfl) (Nat.le_of_ble_eq_true rfl) (d' := d - 1) (by omega) dX4_keep_13 hv.2.2 (fun v9 h2 q3 => ?_)
  obtain ⟨rfl, hS4, q3⟩ := q3
  refine wq_st (st' := []) rfl ?_
  exact wp_vret rfl dX4_keep_16 q3
theorem dX4_takeBack_0 : decode cX4_takeBack 0 = .ok (.aload_n 0, 1) := by decide +kernel
theorem dX4_takeBack_1 : decode cX4_takeBack 1 = .ok (.getfield 7, 3) := by decide +kernel
theorem dX4_takeBack_4 : decode cX4_takeBack 4 = .ok (.aload_n 0, 1) := by decide +kernel
theorem dX4_takeBack_5 : decode cX4_takeBack 5 = .ok (.getfield 15, 3) := by decide +kernel
theorem dX4_takeBack_8 : decode cX4_takeBack 8 = .ok (.aload_n 0, 1) := by decide +kernel
theorem dX4_takeBack_9 : decode cX4_takeBack 9 = .ok (.getfield 20, 3) := by decide +kernel
theorem dX4_takeBack_12 : decode cX4_takeBack 12 = .ok (.aaload, 1) := by decide +kernel
theorem dX4_takeBack_13 : decode cX4_takeBack 13 = .ok (.invokevirtual 27, 3) := by decide +kernel
theorem dX4_takeBack_16 : decode cX4_takeBack 16 = .ok (.return_, 1) := by decide +kernel
theorem vc_X4_takeBack_0 {G : zG} {d : Nat} {Q : Option zV → zHp → Prop}  (h : zHp) (hS : zSh h) (hd : 3 ≤ d)  
    (hv : (((0 : Int) ≤ (gI h 13 2) ∧ (gI h 13 2) < ((13 : Nat) : Int)) ∧ (zT 369 (gR h 14 (gI h 13 2).toNat) = (102, 3) ∧ (wpN G (d - 1) M_X2_become 0 (zar 0 [vR 8, vR (gR h 14 (gI h 13 2).toNat)]) [] h (qV (fun h2 => zSh h2 ∧ Q none h2)))))) : wpN G d M_X4_takeBack 0 [(0, vR 13)] [] h Q := by
  refine wq_aload_n 0 rfl rfl dX4_takeBack_0 ?_
  refine wq_getR fk_X4_7 tT_13 (fun _ _ _ => rfl) (sh_4_0 hS) (by decide) dX4_takeBack_1 ?_
  refine wq_aload_n 0 rfl rfl dX4_takeBack_4 ?_
  refine wq_getR fk_X4_15 tT_13 (fun _ _ _ => rfl) (sh_4_1 hS) (by decide) dX4_takeBack_5 ?_
  refine wq_aload_n 0 rfl rfl dX4_takeBack_8 ?_
  refine wq_getI fk_X4_20 tT_13 (fun _ _ _ => rfl) dX4_takeBack_9 ?_
  refine wq_aald tT_14 (by decide) (by decide) rfl hv.1.1 hv.1.2 rfl (zT_nz hv.2.1 (by decide)) dX4_takeBack_12 ?_
  refine wN_V (As := [vR (gR h 14 (gI h 13 2).toNat)]) vm_X2_become lk_X4_27 tT_8 rfl rfl (Nat.le_of_ble_eq_true rfl) (Nat.le_of_ble_eq_true rfl) (d' := d - 1) (by omega) dX4_takeBack_13 hv.2.2 (fun v9 h2 q3 => ?_)
  obtain ⟨rfl, hS4, q3⟩ := q3
  refine wq_st (st' := []) rfl ?_
  exact wp_vret rfl dX4_takeBack_16 q3
theorem dX4_commit_0 : decode cX4_commit 0 = .ok (.aload_n 0, 1) := by decide +kernel
theorem dX4_commit_1 : decode cX4_commit 1 = .ok (.getfield 20, 3) := by decide +kernel
theorem dX4_commit_4 : decode cX4_commit 4 = .ok (.bipush 12, 2) := by decide +kernel
theorem dX4_commit_6 : decode cX4_commit 6 = .ok (.if_icmp .ge 16, 3) := by decide +kernel
theorem dX4_commit_9 : decode cX4_commit 9 = .ok (.aload_n 0, 1) := by decide +kernel
theorem dX4_commit_10 : decode cX4_commit 10 = .ok (.dup, 1) := by decide +kernel
theorem dX4_commit_11 : decode cX4_commit 11 = .ok (.getfield 20, 3) := by decide +kernel
theorem dX4_commit_14 : decode cX4_commit 14 = .ok (.iconst 1, 1) := by decide +kernel
theorem dX4_commit_15 : decode cX4_commit 15 = .ok (.iadd, 1) := by decide +kernel
theorem dX4_commit_16 : decode cX4_commit 16 = .ok (.putfield 20, 3) := by decide +kernel
theorem dX4_commit_19 : decode cX4_commit 19 = .ok (.goto 7, 3) := by decide +kernel
theorem dX4_commit_22 : decode cX4_commit 22 = .ok (.aload_n 0, 1) := by decide +kernel
theorem dX4_commit_23 : decode cX4_commit 23 = .ok (.invokevirtual 31, 3) := by decide +kernel
theorem dX4_commit_26 : decode cX4_commit 26 = .ok (.aload_n 0, 1) := by decide +kernel
theorem dX4_commit_27 : decode cX4_commit 27 = .ok (.aload_n 0, 1) := by decide +kernel
theorem dX4_commit_28 : decode cX4_commit 28 = .ok (.getfield 20, 3) := by decide +kernel
theorem dX4_commit_31 : decode cX4_commit 31 = .ok (.putfield 24, 3) := by decide +kernel
theorem dX4_commit_34 : decode cX4_commit 34 = .ok (.return_, 1) := by decide +kernel
theorem vc_X4_commit_0 {G : zG} {d : Nat} {Q : Option zV → zHp → Prop}  (h : zHp) (hS : zSh h) (hd : 1 ≤ d)  
    (hv : ((12 ≤ (gI h 13 2) → (wpN G (d - 1) M_X4_dropOldest 0 (zar 0 [vR 13]) [] h (qV (fun h3 => zSh h3 ∧ (∀ h6 : zHp, h6 = sI h3 13 3 (gI h3 13 2) → Q none h6))))) ∧ ((gI h 13 2) < 12 → ((-2147483648 ≤ (gI h 13 2) + 1 ∧ (gI h 13 2) + 1 ≤ 2147483647) ∧ (∀ h8 : zHp, h8 = sI h 13 2 ((gI h 13 2) + 1) → (∀ h10 : zHp, h10 = sI h8 13 3 (gI h8 13 2) → Q none h10)))))) : wpN G d M_X4_commit 0 [(0, vR 13)] [] h Q := by
  refine wq_aload_n 0 rfl rfl dX4_commit_0 ?_
  refine wq_getI fk_X4_20 tT_13 (fun _ _ _ => rfl) dX4_commit_1 ?_
  refine wq_bipush (z := 12) (zlit rfl) rfl dX4_commit_4 ?_
  refine wq_icmp_ge 22 rfl dX4_commit_6 (fun c1 => ?_) (fun c1 => ?_)
  · refine wq_aload_n 0 rfl rfl dX4_commit_22 ?_
    refine wN_V (As := []) vm_X4_dropOldest lk_X4_31 tT_13 rfl rfl (Nat.le_of_ble_eq_true rfl) (Nat.le_of_ble_eq_true rfl) (d' := d - 1) (by omega) dX4_commit_23 (hv.1 c1) (fun v9 h3 q4 => ?_)
    obtain ⟨rfl, hS5, q4⟩ := q4
    refine wq_st (st' := []) rfl ?_
    refine wq_aload_n 0 rfl rfl dX4_commit_26 ?_
    refine wq_aload_n 0 rfl rfl dX4_commit_27 ?_
    refine wq_getI fk_X4_20 tT_13 (fun _ _ _ => rfl) dX4_commit_28 ?_
    refine wq_putI fk_X4_24 tT_13 rfl rfl dX4_commit_31 ?_
    refine wq_toph (fun h6 e7 => ?_)
    have sh6 : zSh h6 := zSh_of e7 hS5
    exact wp_vret rfl dX4_commit_34 (q4 h6 e7)
  · refine wq_aload_n 0 rfl rfl dX4_commit_9 ?_
    refine wq_dup rfl dX4_commit_10 ?_
    refine wq_getI fk_X4_20 tT_13 (fun _ _ _ => rfl) dX4_commit_11 ?_
    refine wq_iconst (z := 1) (zlit rfl) dX4_commit_14 ?_
    refine wq_iadd (hv.2 c1).1 dX4_commit_15 ?_
    refine wq_putI fk_X4_20 tT_13 rfl rfl dX4_commit_16 ?_
    refine wq_toph (fun h8 e9 => ?_)
    have sh8 : zSh h8 := zSh_of e9 hS
    refine wq_goto 26 rfl dX4_commit_19 ?_
    refine wq_aload_n 0 rfl rfl dX4_commit_26 ?_
    refine wq_aload_n 0 rfl rfl dX4_commit_27 ?_
    refine wq_getI fk_X4_20 tT_13 (fun _ _ _ => rfl) dX4_commit_28 ?_
    refine wq_putI fk_X4_24 tT_13 rfl rfl dX4_commit_31 ?_
    refine wq_toph (fun h10 e11 => ?_)
    have sh10 : zSh h10 := zSh_of e11 sh8
    exact wp_vret rfl dX4_commit_34 (((hv.2 c1).2 h8 e9) h10 e11)
theorem dX4_back_0 : decode cX4_back 0 = .ok (.aload_n 0, 1) := by decide +kernel
theorem dX4_back_1 : decode cX4_back 1 = .ok (.getfield 20, 3) := by decide +kernel
theorem dX4_back_4 : decode cX4_back 4 = .ok (.ifCond .gt 5, 3) := by decide +kernel
theorem dX4_back_7 : decode cX4_back 7 = .ok (.iconst 0, 1) := by decide +kernel
theorem dX4_back_8 : decode cX4_back 8 = .ok (.ireturn, 1) := by decide +kernel
theorem dX4_back_9 : decode cX4_back 9 = .ok (.aload_n 0, 1) := by decide +kernel
theorem dX4_back_10 : decode cX4_back 10 = .ok (.invokevirtual 34, 3) := by decide +kernel
theorem dX4_back_13 : decode cX4_back 13 = .ok (.aload_n 0, 1) := by decide +kernel
theorem dX4_back_14 : decode cX4_back 14 = .ok (.dup, 1) := by decide +kernel
theorem dX4_back_15 : decode cX4_back 15 = .ok (.getfield 20, 3) := by decide +kernel
theorem dX4_back_18 : decode cX4_back 18 = .ok (.iconst 1, 1) := by decide +kernel
theorem dX4_back_19 : decode cX4_back 19 = .ok (.isub, 1) := by decide +kernel
theorem dX4_back_20 : decode cX4_back 20 = .ok (.putfield 20, 3) := by decide +kernel
theorem dX4_back_23 : decode cX4_back 23 = .ok (.aload_n 0, 1) := by decide +kernel
theorem dX4_back_24 : decode cX4_back 24 = .ok (.invokevirtual 37, 3) := by decide +kernel
theorem dX4_back_27 : decode cX4_back 27 = .ok (.iconst 1, 1) := by decide +kernel
theorem dX4_back_28 : decode cX4_back 28 = .ok (.ireturn, 1) := by decide +kernel
theorem vc_X4_back_0 {G : zG} {d : Nat} {Q : Option zV → zHp → Prop}  (h : zHp) (hS : zSh h) (hd : 4 ≤ d)  
    (hv : ((0 < (gI h 13 2) → (wpN G (d - 1) M_X4_keep 0 (zar 0 [vR 13]) [] h (qV (fun h3 => zSh h3 ∧ ((-2147483648 ≤ (gI h3 13 2) - 1 ∧ (gI h3 13 2) - 1 ≤ 2147483647) ∧ (∀ h6 : zHp, h6 = sI h3 13 2 ((gI h3 13 2) - 1) → (wpN G (d - 1) M_X4_takeBack 0 (zar 0 [vR 13]) [] h6 (qV (fun h9 => zSh h9 ∧ Q (some (vI 1)) h9))))))))) ∧ ((gI h 13 2) ≤ 0 → Q (some (vI 0)) h))) : wpN G d M_X4_back 0 [(0, vR 13)] [] h Q := by
  refine wq_aload_n 0 rfl rfl dX4_back_0 ?_
  refine wq_getI fk_X4_20 tT_13 (fun _ _ _ => rfl) dX4_back_1 ?_
  refine wq_if_gt 9 rfl dX4_back_4 (fun c1 => ?_) (fun c1 => ?_)
  · refine wq_aload_n 0 rfl rfl dX4_back_9 ?_
    refine wN_V (As := []) vm_X4_keep lk_X4_34 tT_13 rfl rfl (Nat.le_of_ble_eq_true rfl) (Nat.le_of_ble_eq_true rfl) (d' := d - 1) (by omega) dX4_back_10 (hv.1 c1) (fun v9 h3 q4 => ?_)
    obtain ⟨rfl, hS5, q4⟩ := q4
    refine wq_st (st' := []) rfl ?_
    refine wq_aload_n 0 rfl rfl dX4_back_13 ?_
    refine wq_dup rfl dX4_back_14 ?_
    refine wq_getI fk_X4_20 tT_13 (fun _ _ _ => rfl) dX4_back_15 ?_
    refine wq_iconst (z := 1) (zlit rfl) dX4_back_18 ?_
    refine wq_isub q4.1 dX4_back_19 ?_
    refine wq_putI fk_X4_20 tT_13 rfl rfl dX4_back_20 ?_
    refine wq_toph (fun h6 e7 => ?_)
    have sh6 : zSh h6 := zSh_of e7 hS5
    refine wq_aload_n 0 rfl rfl dX4_back_23 ?_
    refine wN_V (As := []) vm_X4_takeBack lk_X4_37 tT_13 rfl rfl (Nat.le_of_ble_eq_true rfl) (Nat.le_of_ble_eq_true rfl) (d' := d - 1) (by omega) dX4_back_24 (q4.2 h6 e7) (fun v9 h9 q10 => ?_)
    obtain ⟨rfl, hS11, q10⟩ := q10
    refine wq_st (st' := []) rfl ?_
    refine wq_iconst (z := 1) (zlit rfl) dX4_back_27 ?_
    exact wp_zret (Or.inr rfl) rfl dX4_back_28 q10
  · refine wq_iconst (z := 0) (zlit rfl) dX4_back_7 ?_
    exact wp_zret (Or.inl rfl) rfl dX4_back_8 (hv.2 c1)
theorem dX4_forward_0 : decode cX4_forward 0 = .ok (.aload_n 0, 1) := by decide +kernel
theorem dX4_forward_1 : decode cX4_forward 1 = .ok (.getfield 20, 3) := by decide +kernel
theorem dX4_forward_4 : decode cX4_forward 4 = .ok (.aload_n 0, 1) := by decide +kernel
theorem dX4_forward_5 : decode cX4_forward 5 = .ok (.getfield 24, 3) := by decide +kernel
theorem dX4_forward_8 : decode cX4_forward 8 = .ok (.if_icmp .lt 5, 3) := by decide +kernel
theorem dX4_forward_11 : decode cX4_forward 11 = .ok (.iconst 0, 1) := by decide +kernel
theorem dX4_forward_12 : decode cX4_forward 12 = .ok (.ireturn, 1) := by decide +kernel
theorem dX4_forward_13 : decode cX4_forward 13 = .ok (.aload_n 0, 1) := by decide +kernel
theorem dX4_forward_14 : decode cX4_forward 14 = .ok (.invokevirtual 34, 3) := by decide +kernel
theorem dX4_forward_17 : decode cX4_forward 17 = .ok (.aload_n 0, 1) := by decide +kernel
theorem dX4_forward_18 : decode cX4_forward 18 = .ok (.dup, 1) := by decide +kernel
theorem dX4_forward_19 : decode cX4_forward 19 = .ok (.getfield 20, 3) := by decide +kernel
theorem dX4_forward_22 : decode cX4_forward 22 = .ok (.iconst 1, 1) := by decide +kernel
theorem dX4_forward_23 : decode cX4_forward 23 = .ok (.iadd, 1) := by decide +kernel
theorem dX4_forward_24 : decode cX4_forward 24 = .ok (.putfield 20, 3) := by decide +kernel
theorem dX4_forward_27 : decode cX4_forward 27 = .ok (.aload_n 0, 1) := by decide +kernel
theorem dX4_forward_28 : decode cX4_forward 28 = .ok (.invokevirtual 37, 3) := by decide +kernel
theorem dX4_forward_31 : decode cX4_forward 31 = .ok (.iconst 1, 1) := by decide +kernel
theorem dX4_forward_32 : decode cX4_forward 32 = .ok (.ireturn, 1) := by decide +kernel
theorem vc_X4_forward_0 {G : zG} {d : Nat} {Q : Option zV → zHp → Prop}  (h : zHp) (hS : zSh h) (hd : 4 ≤ d)  
    (hv : (((gI h 13 2) < (gI h 13 3) → (wpN G (d - 1) M_X4_keep 0 (zar 0 [vR 13]) [] h (qV (fun h3 => zSh h3 ∧ ((-2147483648 ≤ (gI h3 13 2) + 1 ∧ (gI h3 13 2) + 1 ≤ 2147483647) ∧ (∀ h6 : zHp, h6 = sI h3 13 2 ((gI h3 13 2) + 1) → (wpN G (d - 1) M_X4_takeBack 0 (zar 0 [vR 13]) [] h6 (qV (fun h9 => zSh h9 ∧ Q (some (vI 1)) h9))))))))) ∧ ((gI h 13 3) ≤ (gI h 13 2) → Q (some (vI 0)) h))) : wpN G d M_X4_forward 0 [(0, vR 13)] [] h Q := by
  refine wq_aload_n 0 rfl rfl dX4_forward_0 ?_
  refine wq_getI fk_X4_20 tT_13 (fun _ _ _ => rfl) dX4_forward_1 ?_
  refine wq_aload_n 0 rfl rfl dX4_forward_4 ?_
  refine wq_getI fk_X4_24 tT_13 (fun _ _ _ => rfl) dX4_forward_5 ?_
  refine wq_icmp_lt 13 rfl dX4_forward_8 (fun c1 => ?_) (fun c1 => ?_)
  · refine wq_aload_n 0 rfl rfl dX4_forward_13 ?_
    refine wN_V (As := []) vm_X4_keep lk_X4_34 tT_13 rfl rfl (Nat.le_of_ble_eq_true rfl) (Nat.le_of_ble_eq_true rfl) (d' := d - 1) (by omega) dX4_forward_14 (hv.1 c1) (fun v9 h3 q4 => ?_)
    obtain ⟨rfl, hS5, q4⟩ := q4
    refine wq_st (st' := []) rfl ?_
    refine wq_aload_n 0 rfl rfl dX4_forward_17 ?_
    refine wq_dup rfl dX4_forward_18 ?_
    refine wq_getI fk_X4_20 tT_13 (fun _ _ _ => rfl) dX4_forward_19 ?_
    refine wq_iconst (z := 1) (zlit rfl) dX4_forward_22 ?_
    refine wq_iadd q4.1 dX4_forward_23 ?_
    refine wq_putI fk_X4_20 tT_13 rfl rfl dX4_forward_24 ?_
    refine wq_toph (fun h6 e7 => ?_)
    have sh6 : zSh h6 := zSh_of e7 hS5
    refine wq_aload_n 0 rfl rfl dX4_forward_27 ?_
    refine wN_V (As := []) vm_X4_takeBack lk_X4_37 tT_13 rfl rfl (Nat.le_of_ble_eq_true rfl) (Nat.le_of_ble_eq_true rfl) (d' := d - 1) (by omega) dX4_forward_28 (q4.2 h6 e7) (fun v9 h9 q10 => ?_)
    obtain ⟨rfl, hS11, q10⟩ := q10
    refine wq_st (st' := []) rfl ?_
    refine wq_iconst (z := 1) (zlit rfl) dX4_forward_31 ?_
    exact wp_zret (Or.inr rfl) rfl dX4_forward_32 q10
  · refine wq_iconst (z := 0) (zlit rfl) dX4_forward_11 ?_
    exact wp_zret (Or.inl rfl) rfl dX4_forward_12 (hv.2 c1)
theorem dX4_dropOldest_0 : decode cX4_dropOldest 0 = .ok (.aload_n 0, 1) := by decide +kernel
theorem dX4_dropOldest_1 : decode cX4_dropOldest 1 = .ok (.getfield 15, 3) := by decide +kernel
theorem dX4_dropOldest_4 : decode cX4_dropOldest 4 = .ok (.iconst 0, 1) := by decide +kernel
theorem dX4_dropOldest_5 : decode cX4_dropOldest 5 = .ok (.aaload, 1) := by decide +kernel
theorem dX4_dropOldest_6 : decode cX4_dropOldest 6 = .ok (.astore_n 1, 1) := by decide +kernel
theorem dX4_dropOldest_7 : decode cX4_dropOldest 7 = .ok (.iconst 0, 1) := by decide +kernel
theorem dX4_dropOldest_8 : decode cX4_dropOldest 8 = .ok (.istore_n 2, 1) := by decide +kernel
theorem dX4_dropOldest_9 : decode cX4_dropOldest 9 = .ok (.iload_n 2, 1) := by decide +kernel
theorem dX4_dropOldest_10 : decode cX4_dropOldest 10 = .ok (.bipush 12, 2) := by decide +kernel
theorem dX4_dropOldest_12 : decode cX4_dropOldest 12 = .ok (.if_icmp .ge 23, 3) := by decide +kernel
theorem dX4_dropOldest_15 : decode cX4_dropOldest 15 = .ok (.aload_n 0, 1) := by decide +kernel
theorem dX4_dropOldest_16 : decode cX4_dropOldest 16 = .ok (.getfield 15, 3) := by decide +kernel
theorem dX4_dropOldest_19 : decode cX4_dropOldest 19 = .ok (.iload_n 2, 1) := by decide +kernel
theorem dX4_dropOldest_20 : decode cX4_dropOldest 20 = .ok (.aload_n 0, 1) := by decide +kernel
theorem dX4_dropOldest_21 : decode cX4_dropOldest 21 = .ok (.getfield 15, 3) := by decide +kernel
theorem dX4_dropOldest_24 : decode cX4_dropOldest 24 = .ok (.iload_n 2, 1) := by decide +kernel
theorem dX4_dropOldest_25 : decode cX4_dropOldest 25 = .ok (.iconst 1, 1) := by decide +kernel
theorem dX4_dropOldest_26 : decode cX4_dropOldest 26 = .ok (.iadd, 1) := by decide +kernel
theorem dX4_dropOldest_27 : decode cX4_dropOldest 27 = .ok (.aaload, 1) := by decide +kernel
theorem dX4_dropOldest_28 : decode cX4_dropOldest 28 = .ok (.aastore, 1) := by decide +kernel
theorem dX4_dropOldest_29 : decode cX4_dropOldest 29 = .ok (.iinc 2 1, 3) := by decide +kernel
theorem dX4_dropOldest_32 : decode cX4_dropOldest 32 = .ok (.goto (-23), 3) := by decide +kernel
theorem dX4_dropOldest_35 : decode cX4_dropOldest 35 = .ok (.aload_n 0, 1) := by decide +kernel
theorem dX4_dropOldest_36 : decode cX4_dropOldest 36 = .ok (.getfield 15, 3) := by decide +kernel
theorem dX4_dropOldest_39 : decode cX4_dropOldest 39 = .ok (.bipush 12, 2) := by decide +kernel
theorem dX4_dropOldest_41 : decode cX4_dropOldest 41 = .ok (.aload_n 1, 1) := by decide +kernel
theorem dX4_dropOldest_42 : decode cX4_dropOldest 42 = .ok (.aastore, 1) := by decide +kernel
theorem dX4_dropOldest_43 : decode cX4_dropOldest 43 = .ok (.return_, 1) := by decide +kernel
theorem vc_X4_dropOldest_0 {G : zG} {d : Nat} {Q : Option zV → zHp → Prop}  (h : zHp) (hS : zSh h) (hd : 0 ≤ d) (I_9 : Nat → Int → zHp → Prop) (hI_9 : ∀ (y1 : Nat) (y2 : Int) (h' : zHp), I_9 y1 y2 h' → wpN G d M_X4_dropOldest 9 [(0, vR 13), (1, vR y1), (2, vI y2)] [] h' Q) 
    (hv : (zT 369 (gR h 14 0) = (102, 3) ∧ (zSh h → I_9 (gR h 14 0) 0 h))) : wpN G d M_X4_dropOldest 0 [(0, vR 13)] [] h Q := by
  refine wq_aload_n 0 rfl rfl dX4_dropOldest_0 ?_
  refine wq_getR fk_X4_15 tT_13 (fun _ _ _ => rfl) (sh_4_1 hS) (by decide) dX4_dropOldest_1 ?_
  refine wq_iconst (z := 0) (zlit rfl) dX4_dropOldest_4 ?_
  refine wq_aald tT_14 (by decide) (by decide) rfl (by decide) (by decide) rfl (zT_nz hv.1 (by decide)) dX4_dropOldest_5 ?_
  refine wq_astore_n (ls' := [(0, vR 13), (1, vR (gR h 14 0))]) rfl (by decide) rfl dX4_dropOldest_6 ?_
  refine wq_iconst (z := 0) (zlit rfl) dX4_dropOldest_7 ?_
  refine wq_istore_n (ls' := [(0, vR 13), (1, vR (gR h 14 0)), (2, vI 0)]) rfl (by decide) rfl dX4_dropOldest_8 ?_
  exact wq_pick [0, 1, 2] rfl (hI_9 (gR h 14 0) 0 h (hv.2 hS))
theorem vc_X4_dropOldest_9 {G : zG} {d : Nat} {Q : Option zV → zHp → Prop} (y1 : Nat) (hT_y1 : zT 369 y1 = (102, 3)) (y2 : Int) (h : zHp) (hS : zSh h) (hd : 0 ≤ d) (I_9 : Nat → Int → zHp → Prop) (hI_9 : ∀ (y1 : Nat) (y2 : Int) (h' : zHp), I_9 y1 y2 h' → wpN G d M_X4_dropOldest 9 [(0, vR 13), (1, vR y1), (2, vI y2)] [] h' Q) 
    (hv : ((12 ≤ y2 → (∀ h2 : zHp, h2 = sR h 14 12 y1 → Q none h2)) ∧ (y2 < 12 → ((-2147483648 ≤ y2 + 1 ∧ y2 + 1 ≤ 2147483647) ∧ (((0 : Int) ≤ (y2 + 1) ∧ (y2 + 1) < ((13 : Nat) : Int)) ∧ (zT 369 (gR h 14 (y2 + 1).toNat) = (102, 3) ∧ (((0 : Int) ≤ y2 ∧ y2 < ((13 : Nat) : Int)) ∧ (∀ h4 : zHp, h4 = sR h 14 y2.toNat (gR h 14 (y2 + 1).toNat) → ((-2147483648 ≤ y2 + 1 ∧ y2 + 1 ≤ 2147483647) ∧ ∀ x6 : Int, x6 = y2 + 1 → (zSh h4 → I_9 y1 x6 h4)))))))))) : wpN G d M_X4_dropOldest 9 [(0, vR 13), (1, vR y1), (2, vI y2)] [] h Q := by
  refine wq_iload_n 2 rfl rfl dX4_dropOldest_9 ?_
  refine wq_bipush (z := 12) (zlit rfl) rfl dX4_dropOldest_10 ?_
  refine wq_icmp_ge 35 rfl dX4_dropOldest_12 (fun c1 => ?_) (fun c1 => ?_)
  · refine wq_aload_n 0 rfl rfl dX4_dropOldest_35 ?_
    refine wq_getR fk_X4_15 tT_13 (fun _ _ _ => rfl) (sh_4_1 hS) (by decide) dX4_dropOldest_36 ?_
    refine wq_bipush (z := 12) (zlit rfl) rfl dX4_dropOldest_39 ?_
    refine wq_aload_n 1 rfl rfl dX4_dropOldest_41 ?_
    refine wq_aast tT_14 (by decide) (by decide) rfl hT_y1 (zT_nz hT_y1 (by decide)) cl_2.1 (by decide) (by decide) dX4_dropOldest_42 ?_
    refine wq_toph (fun h2 e3 => ?_)
    have sh2 : zSh h2 := zSh_pu_14 e3 hS
    exact wp_vret rfl dX4_dropOldest_43 ((hv.1 c1) h2 e3)
  · refine wq_aload_n 0 rfl rfl dX4_dropOldest_15 ?_
    refine wq_getR fk_X4_15 tT_13 (fun _ _ _ => rfl) (sh_4_1 hS) (by decide) dX4_dropOldest_16 ?_
    refine wq_iload_n 2 rfl rfl dX4_dropOldest_19 ?_
    refine wq_aload_n 0 rfl rfl dX4_dropOldest_20 ?_
    refine wq_getR fk_X4_15 tT_13 (fun _ _ _ => rfl) (sh_4_1 hS) (by decide) dX4_dropOldest_21 ?_
    refine wq_iload_n 2 rfl rfl dX4_dropOldest_24 ?_
    refine wq_iconst (z := 1) (zlit rfl) dX4_dropOldest_25 ?_
    refine wq_iadd (hv.2 c1).1 dX4_dropOldest_26 ?_
    refine wq_aald tT_14 (by decide) (by decide) rfl (hv.2 c1).2.1.1 (hv.2 c1).2.1.2 rfl (zT_nz (hv.2 c1).2.2.1 (by decide)) dX4_dropOldest_27 ?_
    refine wq_aast tT_14 (by decide) (by decide) rfl (hv.2 c1).2.2.1 (zT_nz (hv.2 c1).2.2.1 (by decide)) cl_2.1 (hv.2 c1).2.2.2.1.1 (hv.2 c1).2.2.2.1.2 dX4_dropOldest_28 ?_
    refine wq_toph (fun h4 e5 => ?_)
    have sh4 : zSh h4 := zSh_pu_14 e5 hS
    refine z_nm (y2 + 1) (fun x6 e7 => ?_)
    refine wq_iinc (y := x6) (ls' := [(0, vR 13), (1, vR y1), (2, vI x6)]) 2 rfl e7.symm (by rw [e7]; exact ((hv.2 c1).2.2.2.2 h4 e5).1) (by decide) rfl dX4_dropOldest_29 ?_
    refine wq_goto 9 rfl dX4_dropOldest_32 ?_
    exact wq_pick [0, 1, 2] rfl (hI_9 y1 x6 h4 ((((hv.2 c1).2.2.2.2 h4 e5).2 x6 e7) sh4))
