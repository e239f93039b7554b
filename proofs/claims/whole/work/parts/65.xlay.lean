/-! fields laid by the program -/
def xFs (h : zHp) : List (List Int × List Int) := (List.range (gI h 215 1).toNat).map (xFl h)
theorem xFs_len {h : zHp} : (xFs h).length = (gI h 215 1).toNat := by simp [xFs]
def xLy : Nat → Nat → Prop := fun b j => (b = 215 ∧ 1 ≤ j ∧ j ≤ 3) ∨ (217 ≤ b ∧ b ≤ 336)
theorem ztmp_all : ∀ a, a < 370 → zTAU a = (108, 2) → 81 ≤ a ∧ a ≤ 185 := by decide +kernel
theorem ztmp {a : Nat} (h : zT 369 a = (108, 2)) : 81 ≤ a ∧ a ≤ 185 := by
  obtain ⟨q1, q2, q3⟩ := zT_at h (by decide)
  exact ztmp_all a (by omega) q3
theorem xFl_I {h h' : zHp} {j : Nat} (e : ∀ c, gI h' (217 + 2 * j) c = gI h (217 + 2 * j) c) (e2 : ∀ c, gI h' (217 + 2 * j + 1) c = gI h (217 + 2 * j + 1) c) : xFl h' j = xFl h j := by
  unfold xFl
  simp only [e, e2]
theorem xFs_I {h h' : zHp} (e1 : gI h' 215 1 = gI h 215 1) (e : ∀ b j, 217 ≤ b → b ≤ 336 → gI h' b j = gI h b j) (hb : gI h 215 1 ≤ 60) : xFs h' = xFs h := by
  unfold xFs
  rw [e1]
  refine List.map_congr_left (fun j hj => ?_)
  have hj2 := List.mem_range.mp hj
  exact xFl_I (fun c => e _ _ (by omega) (by omega)) (fun c => e _ _ (by omega) (by omega))
theorem xFs_push {h h' : zHp} {n : Nat} {fd : List Int × List Int} (e : gI h 215 1 = (n : Int)) (e' : gI h' 215 1 = (n : Int) + 1) (hk : ∀ j : Nat, j < n → xFl h' j = xFl h j) (hn : xFl h' n = fd) : xFs h' = xFs h ++ [fd] := by
  unfold xFs
  rw [e, e', show ((n : Int) + 1).toNat = n + 1 by omega, show (n : Int).toNat = n by omega, List.range_succ, List.map_append]
  congr 1
  · exact List.map_congr_left (fun j hj => hk j (List.mem_range.mp hj))
  · show [xFl h' n] = [fd]
    rw [hn]
theorem xT_I {h h' : zHp} {a : Nat} (e1 : gI h' a 1 = gI h a 1) (e : ∀ b j, a + 2 ≤ b → b < a + 2 + 24 → gI h' b j = gI h b j) (hb : gI h a 1 ≤ 24) : xT h' a = xT h a := by
  unfold xT
  rw [e1]
  refine List.map_congr_left (fun i hi => ?_)
  have hi2 := List.mem_range.mp hi
  exact List.map_congr_left (fun f _ => e _ _ (by omega) (by omega))
theorem zF4.cpI {P : Nat → Nat → Prop} {h : zHp} {a0 sp a dp k : Nat} (hp : ∀ j, P a j) : zF4 P h (cpI h a0 sp a dp k) :=
  ⟨fun b j hb => ⟨cpI_ne (fun e => hb (by rw [e]; exact hp j)), rfl⟩, fun _ _ => rfl⟩
section XLAY
variable {G : zG} {d : Nat} {Q : Option zV → zHp → Prop} {h : zHp} {T : List (List Int)} {bs : List Int} {off : Int}
/-- where the parts of a new field stand -/
theorem xput {g3 g5 g7 g9 g12 g15 g17 g19 g21 g23 : zHp} {n dp : Nat} {x0 x1 x2 x3 x4 x5 x6 : Int} {m : Nat} (en : m = n) (hn : n < 60)
    (e3 : g3 = sI h (217 + 2 * m) 0 x0) (e5 : g5 = sI g3 (217 + 2 * m) 1 x1) (e7 : g7 = sI g5 (217 + 2 * m) 2 x2) (e9 : g9 = sI g7 (217 + 2 * m) 3 x3) (e12 : g12 = sI g9 (217 + 2 * m) 4 x4) (e15 : g15 = sI g12 (217 + 2 * m) 5 x5) (e17 : g17 = sI g15 (217 + 2 * m) 6 x6)
    (e19 : g19 = cpI g17 337 0 (217 + 2 * m + 1) 0 dp) (e21 : g21 = sI g19 215 1 (gI g19 215 1 + 1)) {z : Int} (e23 : g23 = sI g21 215 3 z) :
    zF4 xLy h g23 ∧ gI g23 215 1 = gI h 215 1 + 1 ∧ gI g23 215 3 = z ∧ gI g23 215 2 = gI h 215 2 ∧ (∀ j : Nat, j ≠ n → j < 60 → xFl g23 j = xFl h j) ∧ (gI g23 (217 + 2 * n) 0 = x0 ∧ gI g23 (217 + 2 * n) 1 = x1 ∧ gI g23 (217 + 2 * n) 2 = x2 ∧ gI g23 (217 + 2 * n) 3 = x3 ∧ gI g23 (217 + 2 * n) 4 = x4 ∧ gI g23 (217 + 2 * n) 5 = x5 ∧ gI g23 (217 + 2 * n) 6 = x6) ∧ (∀ j, j < dp → gI g23 (217 + 2 * n + 1) j = gI h 337 j) ∧ (∀ b j, b ≠ 215 → b ≠ 217 + 2 * n → b ≠ 217 + 2 * n + 1 → gI g21 b j = gI h b j) ∧ (∀ j, j ≠ 1 → gI g21 215 j = gI h 215 j) := by
  subst en
  have f : ∀ (g : zHp) (c : Nat) (x : Int) (b j : Nat), b ≠ 217 + 2 * m → gI (sI g (217 + 2 * m) c x) b j = gI g b j := fun g c x b j q => by rw [gI_sI, if_neg (fun w => q w.1)]
  have n17 : ∀ b j, b ≠ 217 + 2 * m → gI g17 b j = gI h b j := fun b j q => by rw [e17, f _ _ _ _ _ q, e15, f _ _ _ _ _ q, e12, f _ _ _ _ _ q, e9, f _ _ _ _ _ q, e7, f _ _ _ _ _ q, e5, f _ _ _ _ _ q, e3, f _ _ _ _ _ q]
  have n19 : ∀ b j, b ≠ 217 + 2 * m → b ≠ 217 + 2 * m + 1 → gI g19 b j = gI h b j := fun b j q1 q2 => by rw [e19, cpI_ne q2, n17 _ _ q1]
  have n21 : ∀ b j, b ≠ 215 → gI g21 b j = gI g19 b j := fun b j q => by rw [e21, gI_sI, if_neg (fun w => q w.1)]
  have n23 : ∀ b j, b ≠ 215 → gI g23 b j = gI g19 b j := fun b j q => by rw [e23, gI_sI, if_neg (fun w => q w.1), n21 _ _ q]
  have t19 : ∀ c, gI g19 (217 + 2 * m) c = gI g17 (217 + 2 * m) c := fun c => by rw [e19, cpI_ne (by omega)]
  have s21 : ∀ j, j ≠ 1 → gI g21 215 j = gI h 215 j := fun j q => by rw [e21, gI_sI, if_neg (fun w => q w.2), n19 _ _ (by omega) (by omega)]
  have F : zF4 xLy h g23 := by
    have p : ∀ c, xLy (217 + 2 * m) c := fun c => Or.inr ⟨by omega, by omega⟩
    have q : ∀ j, xLy (217 + 2 * m + 1) j := fun j => Or.inr ⟨by omega, by omega⟩
    have q1 : xLy 215 1 := Or.inl ⟨rfl, by omega, by omega⟩
    have q3 : xLy 215 3 := Or.inl ⟨rfl, by omega, by omega⟩
    rw [e23, e21, e19, e17, e15, e12, e9, e7, e5, e3]
    exact ((((((((((zF4.sI (p 0)).tr (zF4.sI (p 1))).tr (zF4.sI (p 2))).tr (zF4.sI (p 3))).tr (zF4.sI (p 4))).tr (zF4.sI (p 5))).tr (zF4.sI (p 6))).tr (zF4.cpI q)).tr (zF4.sI q1)).tr (zF4.sI q3))
  refine ⟨F, ?_, ?_, ?_, fun j hj hj2 => ?_, ⟨?_, ?_, ?_, ?_, ?_, ?_, ?_⟩, fun j hj => ?_, fun b j q1 q2 q3 => ?_, s21⟩
  · rw [e23, gI_sI, if_neg (by omega), e21, gI_sI, if_pos ⟨rfl, rfl⟩, n19 _ _ (by omega) (by omega)]
  · rw [e23, gI_sI, if_pos ⟨rfl, rfl⟩]
  · rw [e23, gI_sI, if_neg (by omega), s21 _ (by omega)]
  · exact xFl_I (fun c => by rw [n23 _ _ (by omega), n19 _ _ (by omega) (by omega)]) (fun c => by rw [n23 _ _ (by omega), n19 _ _ (by omega) (by omega)])
  · rw [n23 _ _ (by omega), t19, e17, e15, e12, e9, e7, e5, e3]; simp [gI_sI]
  · rw [n23 _ _ (by omega), t19, e17, e15, e12, e9, e7, e5]; simp [gI_sI]
  · rw [n23 _ _ (by omega), t19, e17, e15, e12, e9, e7]; simp [gI_sI]
  · rw [n23 _ _ (by omega), t19, e17, e15, e12, e9]; simp [gI_sI]
  · rw [n23 _ _ (by omega), t19, e17, e15, e12]; simp [gI_sI]
  · rw [n23 _ _ (by omega), t19, e17, e15]; simp [gI_sI]
  · rw [n23 _ _ (by omega), t19, e17]; simp [gI_sI]
  · rw [n23 _ _ (by omega), e19, cpI_at, if_pos ⟨by omega, by omega⟩, show 0 + (j - 0) = j by omega, n17 _ _ (by omega)]
  · rw [n21 _ _ q1, n19 _ _ q2 q3]
theorem sp_layField {a i n : Nat} {K : zLyK} {s : zLyS} {r : Int} (hd : 1 ≤ d) (hS : zSh h) (h8 : dOk h 8) (hTa : zT 369 a = (108, 2)) (eT : xT h a = T) (ok : tOk T) (hi : i < T.length) (eb : (dv h 8).1 = bs) (hl : K.length ≤ 3) (hk : ti T i 0 ≤ 4) (e1 : gI h 215 1 = (n : Int)) (hn : n ≤ 60) (p0 : 0 ≤ gI h 215 3) (p1 : gI h 215 3 ≤ 1000000)
    (s1 : lF s = xFs h) (s0 : lB s = 0) (s2 : gI h 215 2 = 0) (s3 : lP s = gI h 215 3) (sG : 2 ≤ ti T i 0 → lG s (ti T i 11).toNat = gI h 339 (ti T i 11).toNat) (sE : 2 ≤ ti T i 0 → lE s (ti T i 12).toNat = gI h 340 (ti T i 12).toNat)
    (pth : kPath T K = (List.range K.length).map (gI h 337)) (top : gI h 337 K.length = 1000 * r + ti T i 1)
    (k : ∀ h', zSh h' → zF4 xLy h h' → lF (lOne T bs K i r s) = xFs h' → lB (lOne T bs K i r s) = gI h' 215 2 → lP (lOne T bs K i r s) = gI h' 215 3 → ((lB (lOne T bs K i r s) = 0 ∧ gI h' 215 1 = (n : Int) + 1) ∨ (lB (lOne T bs K i r s) ≠ 0 ∧ gI h' 215 1 = (n : Int))) → Q none h') :
    wpN G d M_X6_layField 0 (zar 0 [vR 215, vR (a + 2 + i), vI (K.length : Int)]) [] h Q := by
  have la := ztmp hTa
  have l24 := ok.1
  have hu : (T.length : Int) = gI h a 1 ∨ (gI h a 1 < 0 ∧ T.length = 0) := by rw [← eT, xT_len]; omega
  have hia : (i : Int) < gI h a 1 := by omega
  have tt : ∀ f, f < 13 → gI h (a + 2 + i) f = ti T i f := fun f hf => by rw [← eT, ti_xT hia hf]
  have hb := dv8_len h8
  rw [eb] at hb
  have h82 : gI h 9 1 ≤ 200 := h8.1.2
  have h81 : 0 ≤ gI h 9 1 := h8.1.1
  obtain ⟨⟨⟨_, k0, k7⟩, ⟨n1, _⟩, a2, a3, a4, a5, _⟩, ⟨_, _, _, _, b5, b6⟩, _⟩ := ok.2.2 i hi
  have lit : ti T i 3 = 0 ∨ ti T i 3 = 1 := by
    by_cases c : ti T i 0 ≤ 1
    · exact (a2 c).2
    · exact Or.inl (a3 (by omega))
  have sz : 1 ≤ ti T i 2 ∧ ti T i 2 ≤ 4 := by unfold fSz at a2; omega
  have fl : (lF s).length = n := by rw [s1, xFs_len, e1]; omega
  have en : (n : Int).toNat = n := by omega
  have edp : ((K.length : Int) + 1).toNat = K.length + 1 := by omega
  -- the end of the two roads on which a field is laid
  have fin : ∀ (g : zHp) (x4 x5 : Int), n < 60 → gI h 215 3 + ti T i 2 ≤ gI h 9 1 → zF4 xLy h g → gI g 215 1 = gI h 215 1 + 1 → gI g 215 3 = gI h 215 3 + ti T i 2 → gI g 215 2 = gI h 215 2 → (∀ j : Nat, j ≠ n → j < 60 → xFl g j = xFl h j) → (gI g (217 + 2 * n) 0 = gI h 215 3 ∧ gI g (217 + 2 * n) 1 = ti T i 2 ∧ gI g (217 + 2 * n) 2 = ti T i 0 ∧ gI g (217 + 2 * n) 3 = ti T i 3 ∧ gI g (217 + 2 * n) 4 = x4 ∧ gI g (217 + 2 * n) 5 = x5 ∧ gI g (217 + 2 * n) 6 = (K.length : Int) + 1) → (∀ j, j < K.length + 1 → gI g (217 + 2 * n + 1) j = gI h 337 j) → x4 = (if ti T i 11 = -1 then -1009 else lG s (ti T i 11).toNat) → x5 = (if ti T i 12 = -1 then -1009 else lE s (ti T i 12).toNat) → Q none g := by
    intro g x4 x5 c60 c2 F g1 g3 g2 gO gF gP ex4 ex5
    have e : lOne T bs K i r s = lMk (lF s ++ [lFd T K i r s]) (lB s) (lP s + ti T i 2) (lS s) (lW s) (lG s) (lE s) := by unfold lOne; rw [if_neg (by omega), if_neg (by omega)]
    rw [e] at k
    refine k g (F.Sh hS) F ?_ ?_ ?_ (Or.inl ⟨by rw [lB_mk, s0], by rw [g1, e1]⟩)
    · rw [lF_mk, s1]
      refine (xFs_push e1 (by rw [g1, e1]) (fun j hj => gO j (by omega) (by omega)) ?_).symm
      obtain ⟨f0, f1, f2, f3, f4, f5, f6⟩ := gF
      have pt : (List.range (gI g (217 + 2 * n) 6).toNat).map (fun k => gI g (217 + 2 * n + 1) k) = kPath T K ++ [1000 * r + ti T i 1] := by
        rw [f6, edp, List.range_succ, List.map_append, pth]
        congr 1
        · exact List.map_congr_left (fun x hx => gP x (by have := List.mem_range.mp hx; omega))
        · show [gI g (217 + 2 * n + 1) K.length] = _
          rw [gP _ (by omega), top]
      unfold xFl lFd
      rw [pt, f0, f1, f2, f3, f4, f5, f6, ex4, ex5, s3]
    · rw [lB_mk, s0, g2, s2]
    · rw [lP_mk, s3, g3]
  refine vc_X6_layField_0 (a + 2 + i) (zitm hTa (by omega)) K.length h hS hd ⟨fun c => ⟨by omega, fun c2 => ?_, fun c2 h58 e58 => ?_⟩, fun c h60 e60 => ?_⟩
  · rw [tt 2 (by omega)] at c2
    refine ⟨⟨by omega, by omega⟩, fun h3 e3 h5 e5 h7 e7 => ?_⟩
    rw [e1, en] at e3 e5 e7
    have f : ∀ (g : zHp) (c : Nat) (x : Int) (b j : Nat), b ≠ 217 + 2 * n → gI (sI g (217 + 2 * n) c x) b j = gI g b j := fun g c x b j q => by rw [gI_sI, if_neg (fun w => q w.1)]
    have n3 : ∀ b j, b ≠ 217 + 2 * n → gI h3 b j = gI h b j := fun b j q => by rw [e3, f _ _ _ _ _ q]
    have n5 : ∀ b j, b ≠ 217 + 2 * n → gI h5 b j = gI h b j := fun b j q => by rw [e5, f _ _ _ _ _ q, n3 _ _ q]
    have n7 : ∀ b j, b ≠ 217 + 2 * n → gI h7 b j = gI h b j := fun b j q => by rw [e7, f _ _ _ _ _ q, n5 _ _ q]
    rw [n3 _ _ (by omega), tt 2 (by omega)] at e5
    rw [n5 _ _ (by omega), tt 0 (by omega)] at e7
    rw [n7 _ _ (by omega), tt 3 (by omega), e1, en]
    refine ⟨lit, fun h9 e9 => ?_⟩
    have n9 : ∀ b j, b ≠ 217 + 2 * n → gI h9 b j = gI h b j := fun b j q => by rw [e9, f _ _ _ _ _ q, n7 _ _ q]
    rw [n9 _ _ (by omega), tt 11 (by omega)]
    refine ⟨fun c11 => ?_, fun c11 h35 e35 => ?_⟩
    · have kc : 2 ≤ ti T i 0 := by
        by_cases w : ti T i 0 < 2
        · exact absurd (b6 (Or.inl w)).1 c11
        · omega
      obtain ⟨r1, r2, r3, _, _⟩ := b5 ⟨kc, hk⟩
      rw [n9 339 _ (by omega)]
      refine ⟨⟨by omega, by omega⟩, fun h12 e12 => ?_⟩
      have n12 : ∀ b j, b ≠ 217 + 2 * n → gI h12 b j = gI h b j := fun b j q => by rw [e12, f _ _ _ _ _ q, n9 _ _ q]
      rw [n12 _ _ (by omega), tt 12 (by omega)]
      refine ⟨fun c12 => ?_, fun c12 => by omega⟩
      rw [n12 340 _ (by omega)]
      refine ⟨⟨by omega, by omega⟩, fun h15 e15 => ⟨by omega, fun h17 e17 => ⟨by omega, by omega, fun h19 e19 => ?_⟩⟩⟩
      rw [edp] at e19
      obtain ⟨_, Y1, _, _, _, _, _, Y8, Y9⟩ := xput (h := h) (g3 := h3) (g5 := h5) (g7 := h7) (g9 := h9) (g12 := h12) (g15 := h15) (g17 := h17) (g19 := h19) (dp := K.length + 1) (z := 0) rfl (show n < 60 by omega) e3 e5 e7 e9 e12 e15 e17 e19 rfl rfl
      have y1 : gI h19 215 1 = (n : Int) := by
        have q := Y1
        rw [gI_sI, if_neg (by omega), gI_sI, if_pos ⟨rfl, rfl⟩] at q
        omega
      refine ⟨by omega, fun h21 e21 => ?_⟩
      have y3 : gI h21 215 3 = gI h 215 3 := by rw [e21]; exact Y9 3 (by omega)
      have yi : gI h21 (a + 2 + i) 2 = ti T i 2 := by rw [e21, ← tt 2 (by omega)]; exact Y8 _ _ (by omega) (by omega) (by omega)
      rw [y3, yi]
      refine ⟨by omega, fun h23 e23 => ?_⟩
      obtain ⟨X1, X2, X3, X4, X5, X6, X7, _, _⟩ := xput (h := h) (dp := K.length + 1) rfl (show n < 60 by omega) e3 e5 e7 e9 e12 e15 e17 e19 e21 e23
      refine fin h23 _ _ (by omega) (by omega) X1 X2 X3 X4 X5 X6 X7 ?_ ?_
      · rw [if_neg c11, sG kc]
      · rw [if_neg c12, sE kc]
    · have kc : ¬ 2 ≤ ti T i 0 := fun w => by
        have := (b5 ⟨w, hk⟩).1
        omega
      have c12 := (b6 (Or.inl (by omega))).2
      have n35 : ∀ b j, b ≠ 217 + 2 * n → gI h35 b j = gI h b j := fun b j q => by rw [e35, f _ _ _ _ _ q, n9 _ _ q]
      rw [n35 _ _ (by omega), tt 12 (by omega)]
      refine ⟨fun q => absurd c12 q, fun _ h48 e48 => ⟨by omega, fun h50 e50 => ⟨by omega, by omega, fun h52 e52 => ?_⟩⟩⟩
      rw [edp] at e52
      obtain ⟨_, Y1, _, _, _, _, _, Y8, Y9⟩ := xput (h := h) (g3 := h3) (g5 := h5) (g7 := h7) (g9 := h9) (g12 := h35) (g15 := h48) (g17 := h50) (g19 := h52) (dp := K.length + 1) (z := 0) rfl (show n < 60 by omega) e3 e5 e7 e9 e35 e48 e50 e52 rfl rfl
      have y1 : gI h52 215 1 = (n : Int) := by
        have q := Y1
        rw [gI_sI, if_neg (by omega), gI_sI, if_pos ⟨rfl, rfl⟩] at q
        omega
      refine ⟨by omega, fun h54 e54 => ?_⟩
      have y3 : gI h54 215 3 = gI h 215 3 := by rw [e54]; exact Y9 3 (by omega)
      have yi : gI h54 (a + 2 + i) 2 = ti T i 2 := by rw [e54, ← tt 2 (by omega)]; exact Y8 _ _ (by omega) (by omega) (by omega)
      rw [y3, yi]
      refine ⟨by omega, fun h56 e56 => ?_⟩
      obtain ⟨X1, X2, X3, X4, X5, X6, X7, _, _⟩ := xput (h := h) (dp := K.length + 1) rfl (show n < 60 by omega) e3 e5 e7 e9 e35 e48 e50 e52 e54 e56
      refine fin h56 _ _ (by omega) (by omega) X1 X2 X3 X4 X5 X6 X7 ?_ ?_
      · rw [if_pos c11]
      · rw [if_pos c12]
  · rw [tt 2 (by omega)] at c2
    have e : lOne T bs K i r s = lSetB s 1 := by unfold lOne; rw [if_neg (by omega), if_pos (by omega)]
    rw [e] at k
    have o : ∀ b j, ¬ (b = 215 ∧ j = 2) → gI h58 b j = gI h b j := fun b j q => by rw [e58, gI_sI, if_neg q]
    have F : zF4 xLy h h58 := by rw [e58]; exact zF4.sI (Or.inl ⟨rfl, by omega, by omega⟩)
    refine k h58 (F.Sh hS) F ?_ ?_ ?_ (Or.inr ⟨by show ¬ (1 : Int) = 0; omega, by rw [o _ _ (by omega), e1]⟩)
    · show lF s = _
      rw [xFs_I (h' := h58) (h := h) (o _ _ (by omega)) (fun b j _ _ => o _ _ (by omega)) (by omega), s1]
    · show (1 : Int) = _
      rw [e58, gI_sI, if_pos ⟨rfl, rfl⟩]
    · show lP s = _
      rw [o _ _ (by omega), s3]
  · have e : lOne T bs K i r s = lSetB s 2 := by unfold lOne; rw [if_pos (by omega)]
    rw [e] at k
    have o : ∀ b j, ¬ (b = 215 ∧ j = 2) → gI h60 b j = gI h b j := fun b j q => by rw [e60, gI_sI, if_neg q]
    have F : zF4 xLy h h60 := by rw [e60]; exact zF4.sI (Or.inl ⟨rfl, by omega, by omega⟩)
    refine k h60 (F.Sh hS) F ?_ ?_ ?_ (Or.inr ⟨by show ¬ (2 : Int) = 0; omega, by rw [o _ _ (by omega), e1]⟩)
    · show lF s = _
      rw [xFs_I (h' := h60) (h := h) (o _ _ (by omega)) (fun b j _ _ => o _ _ (by omega)) (by omega), s1]
    · show (2 : Int) = _
      rw [e60, gI_sI, if_pos ⟨rfl, rfl⟩]
    · show lP s = _
      rw [o _ _ (by omega), s3]
end XLAY
