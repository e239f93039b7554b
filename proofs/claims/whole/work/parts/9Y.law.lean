/-! the law's walk -/
theorem zsl_all : zSL 369 - zSL 0 ≤ 7302250 := by decide +kernel
theorem zfit_law : zFit room_1 0 369 30 := ⟨Nat.le_of_ble_eq_true rfl, Nat.le_of_ble_eq_true rfl, Nat.le_of_ble_eq_true rfl, by decide +kernel⟩
theorem zfit_342 : zFit room_1 0 342 30 := ⟨Nat.le_of_ble_eq_true rfl, Nat.le_of_ble_eq_true rfl, Nat.le_of_ble_eq_true rfl, by decide +kernel⟩
section LAWW
variable {b L : Nat} {xs : Nat → Int32} {G : zG} {nm : String}
theorem law_end {h : zHp} {ls : zLs} : wqS b G room_1 lw_Z (zXs b L xs) (Ml nm) 0 369 1164 ls [] h := by
  intro p e s m args below meth c H locs lr hX hH hl hn h1 h2 hb0
  obtain ⟨ea, x1, x2⟩ := hX.2.2.2.2.2.2.2.2.2
  subst ea
  refine lv_iconst (v := 1) hX.1 hX.2.1 dL_law_1164 (by decide) ?_
  refine va_forget (fun q hq => ?_) ?_
  · have h3 := hH.2.2
    have h4 : G.2.1 < q.base := hH.2.1.2.2 q hq
    omega
  · refine W.widen (k := 600000) (n := 7302250) (Nat.le_of_ble_eq_true rfl) zsl_all ?_
    exact lw_ret hX.1 hX.2.1 hX.2.2.1 hX.2.2.2.1 dL_law_1165
theorem law_loop (hL : L ≤ 2560) : ∀ (n : Nat) (i : Int) (h : zHp) (s : zSt), 0 ≤ i → L + 1 ≤ i + n → BS h s → wqS b G room_1 lw_Z (zXs b L xs) (Ml nm) 0 369 18 [(1, vR 1), (2, vR 343), (3, vI i)] [] h := by
  intro n
  induction n with
  | zero =>
    intro i h s i0 hn B
    refine wS_iload_n 2 rfl rfl dL_law_18 ?_
    refine wS_len hL dL_law_19 dL_law_20 ?_
    refine wS_iconst (z := 5) (zlit rfl) dL_law_21 ?_
    refine wS_isub ⟨by omega, by omega⟩ dL_law_22 ?_
    exact wS_icmp_gt 1164 rfl dL_law_23 (fun _ => law_end) (fun c => by omega)
  | succ n ih =>
    intro i h s i0 hn B
    refine wS_iload_n 2 rfl rfl dL_law_18 ?_
    refine wS_len hL dL_law_19 dL_law_20 ?_
    refine wS_iconst (z := 5) (zlit rfl) dL_law_21 ?_
    refine wS_isub ⟨by omega, by omega⟩ dL_law_22 ?_
    refine wS_icmp_gt 1164 rfl dL_law_23 (fun _ => law_end) (fun c => ?_)
    have inc : ∀ g t, BS g t → wqS b G room_1 lw_Z (zXs b L xs) (Ml nm) 0 369 1158 [(1, vR 1), (2, vR 343), (3, vI i)] [] g := fun g t B' => by
      refine wS_iinc (y := i + 5) (ls' := [(1, vR 1), (2, vR 343), (3, vI (i + 5))]) 2 (by decide) rfl rfl ⟨by omega, by omega⟩ (show 3 < 4 by decide) rfl dL_law_1158 ?_
      refine wS_goto 18 rfl dL_law_1161 ?_
      exact ih (i + 5) g t (by omega) (by omega) B'
    refine wS_ld0 2 hL rfl i0 (by omega) dL_law_26 dL_law_27 dL_law_28 ?_
    refine wS_bipush (z := 63) (zlit rfl) rfl dL_law_29 ?_
    refine wS_iand dL_law_31 ?_
    refine wS_tsw 1158 [192, 215, 228, 241, 264, 287, 300, 323, 336, 349, 372, 415, 448, 481, 514, 537, 560, 603, 626, 659, 702, 736, 779, 812, 855, 928, 967, 980, 1013, 1046, 1059, 1072, 1085, 1108, 1121, 1144] rfl rfl rfl dL_law_32 (fun _ => inc h s B) (fun j tg hj ej => ?_)
    match j, hj, ej with
    | 0, hj, ej => cases hj; exact lwC_0 hL zfit_law i0 (by omega) B inc
    | 1, hj, ej => cases hj; exact lwC_1 hL zfit_law i0 (by omega) B inc
    | 2, hj, ej => cases hj; exact lwC_2 hL zfit_law i0 (by omega) B inc
    | 3, hj, ej => cases hj; exact lwC_3 hL zfit_law i0 (by omega) B inc
    | 4, hj, ej => cases hj; exact lwC_4 hL zfit_law i0 (by omega) B inc
    | 5, hj, ej => cases hj; exact lwC_5 hL zfit_law i0 (by omega) B inc
    | 6, hj, ej => cases hj; exact lwC_6 hL zfit_law i0 (by omega) B inc
    | 7, hj, ej => cases hj; exact lwC_7 hL zfit_law i0 (by omega) B inc
    | 8, hj, ej => cases hj; exact lwC_8 hL zfit_law i0 (by omega) B inc
    | 9, hj, ej => cases hj; exact lwC_9 hL zfit_law i0 (by omega) B inc
    | 10, hj, ej => cases hj; exact lwC_10 hL zfit_law i0 (by omega) B inc
    | 11, hj, ej => cases hj; exact lwC_11 hL zfit_law i0 (by omega) B inc
    | 12, hj, ej => cases hj; exact lwC_12 hL zfit_law i0 (by omega) B inc
    | 13, hj, ej => cases hj; exact lwC_13 hL zfit_law i0 (by omega) B inc
    | 14, hj, ej => cases hj; exact lwC_14 hL zfit_law i0 (by omega) B inc
    | 15, hj, ej => cases hj; exact lwC_15 hL zfit_law i0 (by omega) B inc
    | 16, hj, ej => cases hj; exact lwC_16 hL zfit_law i0 (by omega) B inc
    | 17, hj, ej => cases hj; exact lwC_17 hL zfit_law i0 (by omega) B inc
    | 18, hj, ej => cases hj; exact lwC_18 hL zfit_law i0 (by omega) B inc
    | 19, hj, ej => cases hj; exact lwC_19 hL zfit_law i0 (by omega) B inc
    | 20, hj, ej => cases hj; exact lwC_20 hL zfit_law i0 (by omega) B inc
    | 21, hj, ej => cases hj; exact lwC_21 hL zfit_law i0 (by omega) B inc
    | 22, hj, ej => cases hj; exact lwC_22 hL zfit_law i0 (by omega) B inc
    | 23, hj, ej => cases hj; exact lwC_23 hL zfit_law i0 (by omega) B inc
    | 24, hj, ej => cases hj; exact lwC_24 hL zfit_law i0 (by omega) B inc
    | 25, hj, ej => cases hj; exact lwC_25 hL zfit_law i0 (by omega) B inc
    | 26, hj, ej => cases hj; exact lwC_26 hL zfit_law i0 (by omega) B inc
    | 27, hj, ej => cases hj; exact lwC_27 hL zfit_law i0 (by omega) B inc
    | 28, hj, ej => cases hj; exact lwC_28 hL zfit_law i0 (by omega) B inc
    | 29, hj, ej => cases hj; exact lwC_29 hL zfit_law i0 (by omega) B inc
    | 30, hj, ej => cases hj; exact lwC_30 hL zfit_law i0 (by omega) B inc
    | 31, hj, ej => cases hj; exact lwC_31 hL zfit_law i0 (by omega) B inc
    | 32, hj, ej => cases hj; exact lwC_32 hL zfit_law i0 (by omega) B inc
    | 33, hj, ej => cases hj; exact lwC_33 hL zfit_law i0 (by omega) B inc
    | 34, hj, ej => cases hj; exact lwC_34 hL zfit_law i0 (by omega) B inc
    | 35, hj, ej => cases hj; exact lwC_35 hL zfit_law i0 (by omega) B inc
    | j + 36, hj, ej => exact absurd hj (by simp)
theorem law_run (hL : L ≤ 2560) : wqS b G room_1 lw_Z (zXs b L xs) (Ml nm) 0 0 0 [] [] zz0 := by
  refine wS_new cl_10 tb_10 ck_L_7 in_X10 it_X10 (by decide +kernel) (Nat.le_of_ble_eq_true rfl) (by decide +kernel) dL_law_0 ?_
  refine wS_dup rfl dL_law_3 ?_
  refine wS_callI (nE' := 342) (d' := 30) (Q' := fun v g => v = none ∧ g = wEd) (As := []) 0 md_X10_init rfl rfl mi_X10_init lk_L_9 rfl rfl (Nat.le_of_ble_eq_true rfl) (Nat.le_of_ble_eq_true rfl) (by omega) zfit_342 dL_law_4 (ct_X10 (by omega) ⟨rfl, rfl⟩) (fun v g q _ => ?_)
  obtain ⟨rfl, rfl⟩ := q
  refine wS_st (st' := [vR 1]) rfl ?_
  refine wS_astore_n (ls' := [(1, vR 1)]) (by decide) rfl (show 1 < 4 by decide) rfl dL_law_7 ?_
  refine wS_new cl_11 tb_11 ck_L_10 in_X11 it_X11 (by decide +kernel) (Nat.le_of_ble_eq_true rfl) (by decide +kernel) dL_law_8 ?_
  refine wS_dup rfl dL_law_11 ?_
  refine wS_callI (nE' := 369) (d' := 30) (Q' := fun v g => v = none ∧ g = hh0) (As := []) 0 md_X11_init rfl rfl mi_X11_init lk_L_12 rfl rfl (Nat.le_of_ble_eq_true rfl) (Nat.le_of_ble_eq_true rfl) (by omega) zfit_law dL_law_12 (ct_X11 (by omega) ⟨rfl, rfl⟩) (fun v g q _ => ?_)
  obtain ⟨rfl, rfl⟩ := q
  refine wS_st (st' := [vR 343]) rfl ?_
  refine wS_astore_n (ls' := [(1, vR 1), (2, vR 343)]) (by decide) rfl (show 2 < 4 by decide) rfl dL_law_15 ?_
  refine wS_iconst (z := 0) (zlit rfl) dL_law_16 ?_
  refine wS_istore_n (ls' := [(1, vR 1), (2, vR 343), (3, vI 0)]) (by decide) rfl (show 3 < 4 by decide) rfl dL_law_17 ?_
  exact law_loop hL (L + 1) 0 hh0 zS0 (Int.le_refl 0) (by omega) BS_0
end LAWW
theorem k_known {s : State} {args : Array Value} (hts0 : ∀ w ∈ lw_tbl, w.before args s = true) (l : Launch) (B : Nat) : ∃ G : zG, G.1 = l ∧ G.2.1 = B ∧ zKx G s := by
  have hts : ∀ w ∈ zgw, w.before args s = true := fun w hw => hts0 w (List.mem_filter.mp hw).1
  obtain ⟨c0, j0, k0⟩ := u_known (C := RX0) (T := TX0) (N := zN 0) (n := zN 0) hts cl_0.2.1 (hts _ in_X0)
  obtain ⟨c2, j2, k2⟩ := u_known (C := RX2) (T := TX2) (N := zN 2) (n := zN 2) hts cl_2.2.1 (hts _ in_X2)
  obtain ⟨c3, j3, k3⟩ := u_known (C := RX3) (T := TX3) (N := zN 3) (n := zN 3) hts cl_3.2.1 (hts _ in_X3)
  obtain ⟨c4, j4, k4⟩ := u_known (C := RX4) (T := TX4) (N := zN 4) (n := zN 4) hts cl_4.2.1 (hts _ in_X4)
  obtain ⟨c5, j5, k5⟩ := u_known (C := RX5) (T := TX5) (N := zN 5) (n := zN 5) hts cl_5.2.1 (hts _ in_X5)
  obtain ⟨c6, j6, k6⟩ := u_known (C := RX6) (T := TX6) (N := zN 6) (n := zN 6) hts cl_6.2.1 (hts _ in_X6)
  obtain ⟨c7, j7, k7⟩ := u_known (C := RX7) (T := TX7) (N := zN 7) (n := zN 7) hts cl_7.2.1 (hts _ in_X7)
  obtain ⟨c8, j8, k8⟩ := u_known (C := RX8) (T := TX8) (N := zN 8) (n := zN 8) hts cl_8.2.1 (hts _ in_X8)
  obtain ⟨c9, j9, k9⟩ := u_known (C := RX9) (T := TX9) (N := zN 9) (n := zN 9) hts cl_9.2.1 (hts _ in_X9)
  obtain ⟨c10, j10, k10⟩ := u_known (C := RX10) (T := TX10) (N := zN 10) (n := zN 10) hts cl_10.2.1 (hts _ in_X10)
  obtain ⟨c11, j11, k11⟩ := u_known (C := RX11) (T := TX11) (N := zN 11) (n := zN 11) hts cl_11.2.1 (hts _ in_X11)
  obtain ⟨a0, q0, m0, f1, f2, f3⟩ := Cond.arrayClass_spec (hts _ ar_I)
  obtain ⟨a1, q1, m1, g1, g2, g3⟩ := Cond.arrayClass_spec (hts _ ar_L)
  have w2 := hts0 (.arrayOver (.object RX2)) (List.mem_of_getElem? (i := 166) (by decide +kernel))
  have w3 := hts0 (.arrayOver (.object RX8)) (List.mem_of_getElem? (i := 184) (by decide +kernel))
  have w4 := hts0 (.arrayOver (.object RX5)) (List.mem_of_getElem? (i := 191) (by decide +kernel))
  have w5 := hts0 (.arrayOver (.object RX3)) (List.mem_of_getElem? (i := 320) (by decide +kernel))
  have wn := hts0 (.methodLinkNest RX8 15 yX5_init RX10) (List.mem_of_getElem? (i := 193) (by decide +kernel))
  obtain ⟨m2, a2, q2, r1, _, r3, r4, r5⟩ := Cond.arrayOver_spec w2
  obtain ⟨m3, a3, q3, s1, _, s3, s4, s5⟩ := Cond.arrayOver_spec w3
  obtain ⟨m4, a4, q4, t1, _, t3, t4, t5⟩ := Cond.arrayOver_spec w4
  obtain ⟨m5, a5, q5, u1, _, u3, u4, u5⟩ := Cond.arrayOver_spec w5
  refine ⟨(l, B, (fun k => [c0, c0, c2, c3, c4, c5, c6, c7, c8, c9, c10, c11].getD k c0, fun k => [j0, j0, j2, j3, j4, j5, j6, j7, j8, j9, j10, j11].getD k j0), fun k => [a0, a1, a2, a3, a4, a5].getD k a0), rfl, rfl, ⟨fun c q hq => ?_, fun k q hq => ?_⟩, ⟨va_AO.of w2, va_AO.of w3, va_AO.of w4, va_AO.of w5⟩, va_Nw.of rfl wn⟩
  · match c, hq with
    | 0, hq => cases hq; exact k0
    | 1, hq => cases hq; exact k0
    | 2, hq => cases hq; exact k2
    | 3, hq => cases hq; exact k3
    | 4, hq => cases hq; exact k4
    | 5, hq => cases hq; exact k5
    | 6, hq => cases hq; exact k6
    | 7, hq => cases hq; exact k7
    | 8, hq => cases hq; exact k8
    | 9, hq => cases hq; exact k9
    | 10, hq => cases hq; exact k10
    | 11, hq => cases hq; exact k11
    | c + 12, hq => simp [zcl] at hq
  · match k, hq with
    | 0, hq => cases hq; exact ⟨fun n z => ⟨fun k h => (by cases h), q0, f2, m0, f3⟩, f1⟩
    | 1, hq => cases hq; exact ⟨fun n z => ⟨fun k h => (by cases h), q1, g2, m1, g3⟩, g1⟩
    | 2, hq => cases hq; exact ⟨fun n z => ⟨fun k h => (by cases h), q2, r3, m2, r4⟩, q2, m2, r3, r4, r1, r5⟩
    | 3, hq => cases hq; exact ⟨fun n z => ⟨fun k h => (by cases h), q3, s3, m3, s4⟩, q3, m3, s3, s4, s1, s5⟩
    | 4, hq => cases hq; exact ⟨fun n z => ⟨fun k h => (by cases h), q4, t3, m4, t4⟩, q4, m4, t3, t4, t1, t5⟩
    | 5, hq => cases hq; exact ⟨fun n z => ⟨fun k h => (by cases h), q5, u3, m5, u4⟩, q5, m5, u3, u4, u1, u5⟩
    | k + 6, hq => simp [ztys] at hq
/-- YOUR PART: from the entry, for every script of at most 2560 ints, the law comes to its end with true -/
theorem whole_start {p : Program} {e : Env} {s : State} {m : MethodId} {below : List Frame} {meth : Method} {c : Code} (l : Launch) (hflags : l.flags = flags0) {b L : Nat} {xs : Nat → Int32} (hL : L ≤ 2560) (C0 : lw_At p s m meth c b L xs) : W p l e room_1 s m #[Value.ref b] below meth c s.heap [] 0 0 (lw_Z below #[Value.ref b] s) (entryFrame m ([Value.ref b] : List Value).toArray 4) := by
  obtain ⟨hx, hb, hr, hml, hown, hts, hX, hbl, hlocks, hgv⟩ := C0
  obtain ⟨G, e1, e2, hK⟩ := k_known hts l (s.heap.size - 1)
  have hs : s.heap.size = G.2.1 + 0 + 1 := by omega
  have hl := lv_entry ([Value.ref b]) (n := 4) (Nat.le_of_ble_eq_true rfl)
  rw [lg_entry_eq]
  generalize (lg_sl ([Value.ref b]) ++ List.replicate (4 - (lg_sl ([Value.ref b])).length) Slot.unset).toArray = ls at hl ⊢
  have hl : lv_has ls 4 [(0, Value.ref b)] := hl
  have k := law_run (b := b) (L := L) (xs := xs) (G := G) (nm := meth.name) hL p e s m #[Value.ref b] below meth c s.heap [] ls ⟨hx, hb, hr, hlocks, hml, hown, fun w hw => hts w (List.mem_filter.mp hw).1, rfl, hK, rfl, hX, hbl⟩ ⟨⟨fun k q hq => by simp [zl] at hq, hs, fun _ _ _ => ⟨rfl, rfl, rfl⟩, fun _ _ => (show zII 0 ∧ zIL 0 from ⟨⟨by decide, by decide⟩, ⟨by decide, by decide⟩⟩)⟩, va_S.rf, hs⟩ ⟨hl.1, hl.2.1, fun q hq => by cases hq⟩ (Nat.le_refl 0) (fun q hq => by cases hq) (fun q hq => by cases hq) (hl.2.2 (0, Value.ref b) List.mem_cons_self)
  rw [e1] at k
  exact k
