/-! repair of the program -/
section XREP
variable {G : zG} {d : Nat} {Q : Option zV → zHp → Prop} {f a : Nat} {h : zHp}
theorem sp_floorMod {x : Int} (hS : zSh h) (x0 : -2147483648 ≤ x) (x1 : x ≤ 2147483647) (k : Q (some (vI (x % 65536))) h) : wpN G d M_J9_floorMod_7cf53 0 (zar 0 [vI x, vI 65536]) [] h Q := by
  refine vc_J9_floorMod_7cf53_0 x 65536 h hS (Nat.zero_le _) ⟨by omega, fun r er => ⟨fun c => ?_, fun c => ?_⟩⟩
  · have h0 : 0 ≤ x := by
      rcases Int.lt_or_le x 0 with q | q
      · have := zxor_neg ⟨x0, x1⟩ q; omega
      · exact q
    rw [er, Int.tmod_eq_emod_of_nonneg h0]
    exact k
  · have h0 : x < 0 := by
      rcases Int.lt_or_le x 0 with q | q
      · exact q
      · have := zxor_i (x := x) (y := 65536) q (by omega) (by omega) (by omega); omega
    have e : x.tmod 65536 = -((-x) % 65536) := by
      have q := Int.neg_tmod (-x) 65536
      rw [Int.neg_neg, Int.tmod_eq_emod_of_nonneg (a := -x) (by omega)] at q
      exact q
    refine ⟨fun c2 => ?_, fun c2 => ⟨by omega, ?_⟩⟩
    · rw [show r = x % 65536 by omega]; exact k
    · rw [show r + 65536 = x % 65536 by omega]; exact k
/-- searching from byte p on, m bytes -/
theorem sp_repair_loop {V : Int} (hd : 2 ≤ d) (hT : zT 369 a = (100, 2)) (hTf : zT 369 f = (103, 8)) (hS : zSh h) (hz : rOk h a) (l2 : gI h a 1 ≤ 200) (hb : byOk (gI h (a + 1)) (gI h a 1)) (hc : fCk h a f) (n4 : gI h f 2 ≠ 4) (v0 : 0 ≤ V) (v1 : V < 65536) {en : Int} (he : en ≤ gI h f 5) : ∀ (m p : Nat), gI h f 4 ≤ p → (p : Int) + m = en → Q (some (vI (rpL (rpF (gI h f 2) (gI h (a + 1)) (gI h f 4) (gI h f 5) V) p m))) h → wpN G d M_X1_repairOf 50 [(0, vR f), (1, vR a), (2, vI 16), (3, vI en), (4, vI V), (5, vI (fExp h a f)), (6, vI (p : Int))] [] h Q := by
  obtain ⟨z1, z2⟩ := hz
  have xr := fExp_rng hb hc
  obtain ⟨c1, c2, c3, c4⟩ := hc
  intro m
  induction m with
  | zero =>
    intro p hp hm k
    exact vc_X1_repairOf_50 f hTf a hT 16 en V _ p h hS hd (fun _ _ _ _ _ _ _ _ => False) (fun _ _ _ _ _ _ _ _ w => w.elim) ⟨fun _ => k, fun c => by omega⟩
  | succ m ih =>
    intro p hp hm k
    have hq := hb p (by omega)
    refine vc_X1_repairOf_50 f hTf a hT 16 en V _ p h hS hd (fun y0 y1 y2 y3 y4 y5 y6 g => y0 = f ∧ y1 = a ∧ y2 = 16 ∧ y3 = en ∧ y4 = V ∧ y5 = fExp h a f ∧ y6 = ((p + 1 : Nat) : Int) ∧ g = h ∧ Q (some (vI (rpL (rpF (gI h f 2) (gI h (a + 1)) (gI h f 4) (gI h f 5) V) (p + 1) m))) h) ?_ ⟨fun c => by omega, fun c => sp_X0_get hT hS z2 (fun r er => qI_i ⟨hS, fun k2 => ?_, fun k2 x14 e14 => ?_⟩)⟩
    · rintro _ _ _ _ _ _ _ _ ⟨q0, q1, q2, q3, q4, q5, q6, q7, q8⟩
      rw [q0, q1, q2, q3, q4, q5, q6, q7]
      exact ih (p + 1) (by omega) (by omega) q8
    · have k3 : gI h f 2 = 3 := by omega
      have e : r = gI h (a + 1) p := by
        rw [rGet, if_pos ⟨by omega, by omega⟩, show ((p : Nat) : Int).toNat = p by omega] at er
        exact er
      rw [e]
      have eF := rpF_3 (aim := V) hb c2 hp (show (p : Int) < gI h f 5 by omega) c4 v0 v1
      have eX : fExp h a f = ckX 3 (gI h (a + 1)) (gI h f 4) (gI h f 5) := by unfold fExp; rw [k3]
      rw [← eX] at eF
      rw [k3] at k ⊢
      refine ⟨by omega, by omega, sp_floorMod hS (by omega) (by omega) (qI_i ⟨hS, fun w => ⟨by omega, fun x12 e12 _ => ⟨rfl, rfl, rfl, rfl, rfl, rfl, by omega, rfl, ?_⟩⟩, fun w => ⟨by omega, by omega, ?_⟩⟩)⟩
      · rw [rpL_n eF (by omega)] at k; exact k
      · rw [rpL_y eF (by omega) w] at k; exact k
    · have e : r = gI h (a + 1) p := by
        rw [rGet, if_pos ⟨by omega, by omega⟩, show ((p : Nat) : Int).toNat = p by omega] at er
        exact er
      have eF := rpF_2 (aim := V) hb c2 hp (show (p : Int) < gI h f 5 by omega) c4 v0
      have eX : fExp h a f = ckX 2 (gI h (a + 1)) (gI h f 4) (gI h f 5) := by unfold fExp; rw [k2]
      rw [← eX] at eF
      have b1 := xor16 (a := (gI h (a + 1) p).toNat) (b := (fExp h a f).toNat) (by omega) (by omega)
      have en2 : x14 = ((((gI h (a + 1) p).toNat ^^^ (fExp h a f).toNat) ^^^ V.toNat : Nat) : Int) := by
        rw [e14, e, zxor_i hq.1 (by omega) xr.1 (by omega), zxor_i (by omega) (by omega) v0 (by omega), Int.toNat_natCast]
      rw [← en2] at eF
      rw [k2] at k ⊢
      refine ⟨fun w => ⟨by omega, fun x12 e12 _ => ⟨rfl, rfl, rfl, rfl, rfl, rfl, by omega, rfl, ?_⟩⟩, fun w => ⟨by omega, by omega, ?_⟩⟩
      · rw [rpL_n eF (by omega)] at k; exact k
      · rw [rpL_y eF (by omega) w] at k; exact k
/-- the third kind: forward from byte p on, m bytes -/
theorem sp_crc_loop {V : Int} (hd : 1 ≤ d) (hT : zT 369 a = (100, 2)) (hTf : zT 369 f = (103, 8)) (hS : zSh h) (hz : rOk h a) (l2 : gI h a 1 ≤ 200) (hb : byOk (gI h (a + 1)) (gI h a 1)) (hc : fCk h a f) (k4 : gI h f 2 = 4) {en : Int} (he : en ≤ gI h f 5) : ∀ (m p : Nat) (nd : Int), gI h f 4 ≤ p → (p : Int) + m = en → 0 ≤ nd → nd < 65536 → (0 < m → ckG (gI h (a + 1)) (p + 1) (gI h f 5 - 1 - p).toNat nd = V) → Q (some (vI (rpL (rpF 4 (gI h (a + 1)) (gI h f 4) (gI h f 5) V) p m))) h → wpN G d M_X1_repairOfCrc 58 [(0, vR f), (1, vR a), (2, vI en), (3, vI (ckE 4 (gI h (a + 1)) (gI h f 4) (p - gI h f 4).toNat)), (4, vI nd), (5, vI (p : Int))] [] h Q := by
  obtain ⟨z1, z2⟩ := hz
  obtain ⟨c1, c2, c3, c4⟩ := hc
  intro m
  induction m with
  | zero =>
    intro p nd hp hm n0 n1 g k
    exact vc_X1_repairOfCrc_58 f hTf a hT en _ nd p h hS hd (fun _ _ _ _ _ _ _ => False) (fun _ _ _ _ _ _ _ w => w.elim) ⟨fun _ => k, fun c => by omega⟩
  | succ m ih =>
    intro p nd hp hm n0 n1 g k
    have hq := hb p (by omega)
    have r := ckE_rng (kind := 4) (Or.inr (Or.inr rfl)) hb c2 (p - gI h f 4).toNat (by omega)
    have g := g (by omega)
    have hx := chI_lt (r := nd.toNat) (by omega) 8
    have hD := xor16 (b := (ckE 4 (gI h (a + 1)) (gI h f 4) (p - gI h f 4).toNat).toNat) hx (by omega)
    refine vc_X1_repairOfCrc_58 f hTf a hT en _ nd p h hS hd (fun y0 y1 y2 y3 y4 y5 g' => y0 = f ∧ y1 = a ∧ y2 = en ∧ y3 = ckE 4 (gI h (a + 1)) (gI h f 4) (((p + 1 : Nat) : Int) - gI h f 4).toNat ∧ y5 = ((p + 1 : Nat) : Int) ∧ g' = h ∧ (0 ≤ y4 ∧ y4 < 65536) ∧ (0 < m → ckG (gI h (a + 1)) (p + 1 + 1) (gI h f 5 - 1 - ((p + 1 : Nat) : Int)).toNat y4 = V) ∧ Q (some (vI (rpL (rpF 4 (gI h (a + 1)) (gI h f 4) (gI h f 5) V) (p + 1) m))) h) ?_ ⟨fun c => by omega, fun c => ?_⟩
    · rintro _ _ _ _ y4 _ _ ⟨q0, q1, q2, q3, q5, q6, q7, q8, q9⟩
      rw [q0, q1, q2, q3, q5, q6]
      exact ih (p + 1) y4 (by omega) (by omega) q7.1 q7.2 q8 q9
    · rw [show zar 0 [vI nd] = zar 0 [vI ((nd.toNat : Nat) : Int)] by rw [show ((nd.toNat : Nat) : Int) = nd by omega]]
      refine sp_X1_halve hS (by omega) (qI_i ⟨hS, fun x6 e6 => ?_⟩)
      have e6 : x6 = ((chI 8 nd.toNat ^^^ (ckE 4 (gI h (a + 1)) (gI h f 4) (p - gI h f 4).toNat).toNat : Nat) : Int) := by
        rw [e6, zxor_i (by omega) (by omega) r.1 (by omega), Int.toNat_natCast]
      have eF := rpF_4 (D := x6.toNat) hb c2 hp (show (p : Int) < gI h f 5 by omega) c4 n0 n1 g (by omega)
      rw [Int.tmod_eq_emod_of_nonneg (by omega), Int.tdiv_eq_ediv_of_nonneg (by omega)]
      refine ⟨fun w => ?_, fun w => ⟨by omega, by omega, ?_⟩⟩
      · have w : ¬ x6.toNat % 256 = 0 := by omega
        rw [if_neg w] at eF
        rw [rpL_n eF (by omega)] at k
        refine sp_X0_get hT hS z2 (fun r9 er9 => qI_i ⟨hS, ?_⟩)
        have e9 : r9 = gI h (a + 1) p := by
          rw [rGet, if_pos ⟨by omega, by omega⟩, show ((p : Nat) : Int).toNat = p by omega] at er9
          exact er9
        rw [e9]
        refine sp_X1_feed hS r.1 r.2 hq.1 hq.2 (qI_i ⟨hS, by omega, sp_X0_get hT hS z2 (fun r17 er17 => qI_i ⟨hS, sp_max hS (fun r21 er21 => qI_i ⟨hS, ?_⟩)⟩)⟩)
        have b21 : (0 ≤ r21 ∧ r21 ≤ 255) ∧ (0 < m → r21 = gI h (a + 1) (p + 1)) := by
          unfold rGet at er17
          by_cases q : 0 ≤ (p : Int) + 1 ∧ (p : Int) + 1 < gI h a 1
          · have hq2 := hb (p + 1) (by omega)
            rw [if_pos q, show ((p : Int) + 1).toNat = p + 1 by omega] at er17
            omega
          · rw [if_neg q] at er17
            omega
        have cr := cF_rng n0 n1 b21.1.1 b21.1.2
        refine sp_X1_feed hS n0 n1 b21.1.1 b21.1.2 (qI_i ⟨hS, by omega, fun x29 e29 _ => ⟨rfl, rfl, rfl, ?_, by omega, rfl, cr, fun hm0 => ?_, k⟩⟩)
        · rw [show (((p + 1 : Nat) : Int) - gI h f 4).toNat = ((p : Int) - gI h f 4).toNat + 1 by omega, ckE_4, show (gI h f 4 + ((((p : Int) - gI h f 4).toNat : Nat) : Int)).toNat = p by omega]
        · rw [b21.2 hm0, ← g, show (gI h f 5 - 1 - (p : Int)).toNat = (gI h f 5 - 1 - ((p + 1 : Nat) : Int)).toNat + 1 by omega, ckG]
      · have w2 : x6.toNat % 256 = 0 := by omega
        rw [if_pos w2] at eF
        rw [rpL_y eF (by omega) (by omega), show ((x6.toNat / 256 : Nat) : Int) = x6 / 256 by omega] at k
        exact k
/-- the third kind -/
theorem sp_X1_repairOfCrc (hd : 1 ≤ d) (hT : zT 369 a = (100, 2)) (hTf : zT 369 f = (103, 8)) (hS : zSh h) (hz : rOk h a) (l2 : gI h a 1 ≤ 200) (hb : byOk (gI h (a + 1)) (gI h a 1)) (hi : fIn h a f) (hc : fCk h a f) (k4 : gI h f 2 = 4) (v0 : 0 ≤ fV h a f) (v1 : fV h a f < 65536) (k : Q (some (vI (rpX 4 (gI h (a + 1)) (gI h f 4) (gI h f 5) (fV h a f)))) h) : wpN G d M_X1_repairOfCrc 0 (zar 0 [vR f, vR a, vI (rpE (gI h f 4) (gI h f 5))]) [] h Q := by
  have hc0 := hc
  obtain ⟨z1, z2⟩ := hz
  obtain ⟨c1, c2, c3, c4⟩ := hc
  have eb : gI h f 4 ≤ rpE (gI h f 4) (gI h f 5) ∧ rpE (gI h f 4) (gI h f 5) ≤ gI h f 5 := by unfold rpE; split <;> omega
  have loop : ∀ (m : Nat) (at9 nd : Int), (at9 = gI h f 4 + m ∨ (m = 0 ∧ at9 ≤ gI h f 4 ∧ gI h f 5 = gI h f 4)) → at9 < gI h f 5 → 0 ≤ nd → nd < 65536 → (gI h f 4 < gI h f 5 → ckG (gI h (a + 1)) (at9.toNat + 1) (gI h f 5 - 1 - at9).toNat nd = fV h a f) → wpN G d M_X1_repairOfCrc 19 [(0, vR f), (1, vR a), (2, vI (rpE (gI h f 4) (gI h f 5))), (3, vI 65535), (4, vI nd), (5, vI at9)] [] h Q := by
    intro m
    induction m with
    | zero =>
      intro at9 nd hat hl n0 n1 g
      refine vc_X1_repairOfCrc_19 f hTf a hT _ _ nd at9 h hS hd (fun _ _ _ _ _ _ _ => False) (fun _ _ _ _ _ _ _ w => w.elim) (fun y0 y1 y2 y3 y4 y5 g' => y0 = f ∧ y1 = a ∧ y2 = rpE (gI h f 4) (gI h f 5) ∧ y3 = ckE 4 (gI h (a + 1)) (gI h f 4) ((((gI h f 4).toNat : Nat) : Int) - gI h f 4).toNat ∧ y4 = nd ∧ y5 = (((gI h f 4).toNat : Nat) : Int) ∧ g' = h) ?_ ⟨fun c x2 e2 _ => ⟨rfl, rfl, rfl, ?_, rfl, by omega, rfl⟩, fun c => by omega⟩
      · rintro _ _ _ _ _ _ _ ⟨q0, q1, q2, q3, q4, q5, q6⟩
        rw [q0, q1, q2, q3, q4, q5, q6]
        refine sp_crc_loop (V := fV h a f) hd hT hTf hS ⟨z1, z2⟩ l2 hb hc0 k4 eb.2 (rpE (gI h f 4) (gI h f 5) - gI h f 4).toNat (gI h f 4).toNat nd (by omega) (by omega) n0 n1 (fun hm0 => ?_) k
        have g := g (by omega)
        rw [show at9 = gI h f 4 by omega] at g
        rw [show (((gI h f 4).toNat : Nat) : Int) = gI h f 4 by omega]
        exact g
      · rw [show ((((gI h f 4).toNat : Nat) : Int) - gI h f 4).toNat = 0 by omega]; rfl
    | succ m ih =>
      intro at9 nd hat hl n0 n1 g
      have hq := hb at9.toNat (by omega)
      have hx := chI_lt (r := nd.toNat) (by omega) 8
      refine vc_X1_repairOfCrc_19 f hTf a hT _ _ nd at9 h hS hd (fun y0 y1 y2 y3 y4 y5 g' => y0 = f ∧ y1 = a ∧ y2 = rpE (gI h f 4) (gI h f 5) ∧ y3 = 65535 ∧ y4 = ((chI 8 nd.toNat ^^^ (256 * (gI h (a + 1) at9.toNat).toNat) : Nat) : Int) ∧ y5 = at9 - 1 ∧ g' = h) ?_ (fun _ _ _ _ _ _ _ => False) (fun _ _ _ _ _ _ _ w => w.elim) ⟨fun c => by omega, fun c => ?_⟩
      · rintro _ _ _ _ _ _ _ ⟨q0, q1, q2, q3, q4, q5, q6⟩
        rw [q0, q1, q2, q3, q4, q5, q6]
        have hy := xor16 (b := 256 * (gI h (a + 1) at9.toNat).toNat) hx (by omega)
        refine ih (at9 - 1) _ (by omega) (by omega) (by omega) (by omega) (fun hlt => ?_)
        have g := g hlt
        have cb := crc_back (f := gI h (a + 1)) (p := at9.toNat) (k := (gI h f 5 - 1 - at9).toNat) n0 n1 hq.1 hq.2
        rw [g] at cb
        rw [show (at9 - 1).toNat + 1 = at9.toNat by omega, show (gI h f 5 - 1 - (at9 - 1)).toNat = (gI h f 5 - 1 - at9).toNat + 1 by omega]
        exact cb
      · rw [show zar 0 [vI nd] = zar 0 [vI ((nd.toNat : Nat) : Int)] by rw [show ((nd.toNat : Nat) : Int) = nd by omega]]
        refine sp_X1_halve hS (by omega) (qI_i ⟨hS, sp_X0_get hT hS z2 (fun r er => qI_i ⟨hS, ?_⟩)⟩)
        have e : r = gI h (a + 1) at9.toNat := by
          rw [rGet, if_pos ⟨by omega, by omega⟩] at er
          exact er
        rw [e]
        refine ⟨by omega, fun x12 e12 => ⟨by omega, fun x14 e14 _ => ⟨rfl, rfl, rfl, rfl, ?_, by omega, rfl⟩⟩⟩
        rw [e12, zxor_i (by omega) (by omega) (by omega) (by omega), Int.toNat_natCast, show (256 * gI h (a + 1) at9.toNat).toNat = 256 * (gI h (a + 1) at9.toNat).toNat by omega]
  refine vc_X1_repairOfCrc_0 f hTf a hT _ h hS hd (fun y0 y1 y2 y3 y4 y5 g' => y0 = f ∧ y1 = a ∧ y2 = rpE (gI h f 4) (gI h f 5) ∧ y3 = 65535 ∧ y4 = fV h a f ∧ y5 = gI h f 5 - 1 ∧ g' = h) ?_ (sp_X0_read hT hTf hS ⟨z1, z2⟩ hb hi (fun v ev => qL_i ⟨hS, fun x5 e5 => ⟨by omega, fun x7 e7 _ => ⟨rfl, rfl, rfl, rfl, ?_, e7, rfl⟩⟩⟩))
  · rintro _ _ _ _ _ _ _ ⟨q0, q1, q2, q3, q4, q5, q6⟩
    rw [q0, q1, q2, q3, q4, q5, q6]
    refine loop (gI h f 5 - 1 - gI h f 4).toNat (gI h f 5 - 1) _ (by omega) (by omega) v0 v1 (fun hlt => ?_)
    rw [show (gI h f 5 - 1 - (gI h f 5 - 1)).toNat = 0 by omega]
    rfl
  · have ev : v = fV h a f := ev
    rw [e5, ev, w32_of ⟨by omega, by omega⟩]
theorem sp_X1_repairOf (hd : 2 ≤ d) (hT : zT 369 a = (100, 2)) (hTf : zT 369 f = (103, 8)) (hS : zSh h) (hz : rOk h a) (l2 : gI h a 1 ≤ 200) (hb : byOk (gI h (a + 1)) (gI h a 1)) (hi : fIn h a f) (hc : fCk h a f) (v0 : 0 ≤ fV h a f) (v1 : fV h a f < 65536) (k : Q (some (vI (rpX (gI h f 2) (gI h (a + 1)) (gI h f 4) (gI h f 5) (fV h a f)))) h) : wpN G d M_X1_repairOf 0 (zar 0 [vR f, vR a, vI 16]) [] h Q := by
  have hc0 := hc
  obtain ⟨c1, c2, c3, c4⟩ := hc
  have eb : gI h f 4 ≤ rpE (gI h f 4) (gI h f 5) ∧ rpE (gI h f 4) (gI h f 5) ≤ gI h f 5 := by unfold rpE; split <;> omega
  refine vc_X1_repairOf_0 f hTf a hT 16 h hS hd (fun y0 y1 y2 y3 y4 y5 y6 g => y0 = f ∧ y1 = a ∧ y2 = 16 ∧ y3 = rpE (gI h f 4) (gI h f 5) ∧ y4 = fV h a f ∧ y5 = fExp h a f ∧ y6 = (((gI h f 4).toNat : Nat) : Int) ∧ g = h ∧ gI h f 2 ≠ 4) ?_ ⟨by omega, sp_min hS (fun r er => qI_i ⟨hS, fun n4 => sp_X0_read hT hTf hS hz hb hi (fun v ev => qL_i ⟨hS, fun x10 e10 => sp_X1_expectedOf (by omega) hT hTf hS hz hb hc0 (qI_i ⟨hS, fun x16 e16 _ => ⟨rfl, rfl, rfl, ?_, ?_, rfl, by omega, rfl, n4⟩⟩)⟩), fun k4 => ?_⟩)⟩
  · rintro _ _ _ _ _ _ _ _ ⟨q0, q1, q2, q3, q4, q5, q6, q7, n4⟩
    rw [q0, q1, q2, q3, q4, q5, q6, q7]
    exact sp_repair_loop hd hT hTf hS hz l2 hb hc0 n4 v0 v1 eb.2 (rpE (gI h f 4) (gI h f 5) - gI h f 4).toNat (gI h f 4).toNat (by omega) (by omega) k
  · unfold rpE; split <;> omega
  · have ev : v = fV h a f := ev
    rw [e10, ev, w32_of ⟨by omega, by omega⟩]
  · have e : r = rpE (gI h f 4) (gI h f 5) := by unfold rpE; split <;> omega
    rw [e]
    rw [k4] at k
    exact sp_X1_repairOfCrc (by omega) hT hTf hS hz l2 hb hi hc0 k4 v0 v1 (qI_i ⟨hS, k⟩)
end XREP
