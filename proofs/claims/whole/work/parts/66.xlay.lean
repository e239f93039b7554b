/-! the fields of an item laid by the program -/
def xRl (h : zHp) (T : List (List Int)) (s : zLyS) (V : Nat → Prop) (K : zLyK) : Prop :=
  lF s = xFs h ∧ lB s = gI h 215 2 ∧ lP s = gI h 215 3 ∧ lS s = gI h 215 7 ∧ (∀ j, V j → lG s j = gI h 339 j) ∧ (∀ j, V j → (∀ x ∈ K, x.1 ≠ j) → lE s j = gI h 340 j) ∧ (∀ j, V j → tPl T j → lW s j = gL h 338 j)
def xVs (h : zHp) (s : zLyS) : Prop := lVis s = (xFs h, (gI h 215 2, gI h 215 3)) ∧ 0 ≤ gI h 215 1
theorem xRl_vis {h : zHp} {T : List (List Int)} {s : zLyS} {V : Nat → Prop} {K : zLyK} (r : xRl h T s V K) : lVis s = (xFs h, (gI h 215 2, gI h 215 3)) := by
  unfold lVis
  rw [r.1, r.2.1, r.2.2.1]
theorem xRl_mono {h : zHp} {T : List (List Int)} {s : zLyS} {V V' : Nat → Prop} {K : zLyK} (r : xRl h T s V K) (hv : ∀ j, V' j → V j) : xRl h T s V' K := by
  obtain ⟨r1, r2, r3, r4, r5, r6, r7⟩ := r
  exact ⟨r1, r2, r3, r4, fun j hj => r5 j (hv j hj), fun j hj => r6 j (hv j hj), fun j hj => r7 j (hv j hj)⟩
def xLw (dp : Nat) : Nat → Nat → Prop := fun b j => xLy b j ∨ (b = 337 ∧ j = dp) ∨ b = 338
/-- a field of the program is as its value -/
theorem xFl_ok {h : zHp} {n : Int} {j : Nat} (e : fdOk n (xFl h j)) (hn : n = gI h 9 1) : fOk h 9 (217 + 2 * j) ∧ gI h (217 + 2 * j) 6 ≤ 4 := by
  obtain ⟨a1, ⟨a2, a3⟩, a4, ⟨a5, a6⟩, a7⟩ := e
  have a1 : fSz (gI h (217 + 2 * j) 1) := a1
  have a2 : 0 ≤ gI h (217 + 2 * j) 0 := a2
  have a3 : gI h (217 + 2 * j) 0 + gI h (217 + 2 * j) 1 ≤ n := a3
  have a6 : gI h (217 + 2 * j) 6 ≤ 4 := a6
  have a4 : ((gI h (217 + 2 * j) 2 = 0 ∨ gI h (217 + 2 * j) 2 = 1) ∧ (gI h (217 + 2 * j) 3 = 0 ∨ gI h (217 + 2 * j) 3 = 1)) ∨ (((gI h (217 + 2 * j) 2 = 2 ∧ gI h (217 + 2 * j) 1 = 1) ∨ ((gI h (217 + 2 * j) 2 = 3 ∨ gI h (217 + 2 * j) 2 = 4) ∧ gI h (217 + 2 * j) 1 = 2)) ∧ gI h (217 + 2 * j) 3 = 0 ∧ 0 ≤ gI h (217 + 2 * j) 4 ∧ gI h (217 + 2 * j) 4 ≤ gI h (217 + 2 * j) 5 ∧ gI h (217 + 2 * j) 5 ≤ gI h (217 + 2 * j) 0) := a4
  have sz : 1 ≤ gI h (217 + 2 * j) 1 := by rcases a1 with q | q | q <;> omega
  refine ⟨⟨⟨a1, a2, by omega⟩, ?_, ?_⟩, a6⟩
  · rcases a4 with ⟨q | q, _⟩ | ⟨q, q2, q3, q4, q5⟩
    · exact Or.inl q
    · exact Or.inr (Or.inl q)
    · exact Or.inr (Or.inr ⟨by omega, q3, q4, by omega⟩)
  · rcases a4 with ⟨_, q⟩ | ⟨_, q, _⟩
    · exact q
    · exact Or.inl q
section XLF
variable {G : zG} {d : Nat} {Q : Option zV → zHp → Prop} {h : zHp} {T : List (List Int)} {bs : List Int} {off : Int}
theorem xtt {a i f : Nat} (eT : xT h a = T) (hi : i < T.length) (hf : f < 13) : gI h (a + 2 + i) f = ti T i f := by
  have hu : (i : Int) < gI h a 1 := by rw [← eT, xT_len] at hi; omega
  rw [← eT, ti_xT hu hf]
theorem sp_isPlain {a i : Nat} (hS : zSh h) (hTa : zT 369 a = (108, 2)) (eT : xT h a = T) (h24 : T.length ≤ 24) (hi : i < T.length) (k : ∀ r, (r = 1 ∧ tPl T i) ∨ (r = 0 ∧ ¬ tPl T i) → Q (some (vI r)) h) : wpN G d M_X5_isPlainInteger 0 (zar 0 [vR (a + 2 + i)]) [] h Q := by
  have t0 := xtt (f := 0) eT hi (by omega)
  have t8 := xtt (f := 8) eT hi (by omega)
  refine vc_X5_isPlainInteger_0 (a + 2 + i) (zitm hTa (by omega)) h hS (Nat.zero_le _) ?_
  rw [t0, t8]
  exact ⟨fun c => ⟨fun c2 => k 0 (Or.inr ⟨rfl, fun w => c2 w.2⟩), fun c2 => k 1 (Or.inl ⟨rfl, Or.inl c, c2⟩)⟩, fun c => ⟨fun c2 => k 0 (Or.inr ⟨rfl, fun w => by rcases w.1 with z | z; exact c z; exact c2 z⟩), fun c2 => ⟨fun c3 => k 0 (Or.inr ⟨rfl, fun w => c3 w.2⟩), fun c3 => k 1 (Or.inl ⟨rfl, Or.inr c2, c3⟩)⟩⟩⟩
theorem sp_repOf {a i : Nat} {W : Nat → Int} (hd : 1 ≤ d) (hS : zSh h) (hTa : zT 369 a = (108, 2)) (eT : xT h a = T) (ok : tOk T) (hi : i < T.length) (hW : ti T i 8 ≠ 0 → ti T i 9 ≠ -1 → W (ti T i 9).toNat = gL h 338 (ti T i 9).toNat) (k : Q (some (vI (tCnt T W i))) h) : wpN G d M_X6_repetitionsOf 0 (zar 0 [vR 215, vR (a + 2 + i)]) [] h Q := by
  have l24 := ok.1
  obtain ⟨_, ⟨_, b2, _⟩, _⟩ := ok.2.2 i hi
  unfold tCnt at k
  refine vc_X6_repetitionsOf_0 (a + 2 + i) (zitm hTa (by omega)) h hS hd ?_
  rw [xtt (f := 8) eT hi (by omega), xtt (f := 9) eT hi (by omega), xtt (f := 10) eT hi (by omega)]
  refine ⟨fun c => ⟨fun c2 => ?_, fun c2 => ?_⟩, fun c => ?_⟩
  · have hr : 0 ≤ ti T i 9 ∧ ti T i 9 < i := by
      rcases b2 with q | ⟨_, _, q | ⟨q, _⟩⟩
      · omega
      · omega
      · exact ⟨q.1, q.2.1⟩
    refine ⟨⟨by omega, by omega⟩, sp_minL hS (fun r1 q1 => qL_i ⟨hS, sp_maxL hS (fun r2 q2 => qL_i ⟨hS, ?_⟩)⟩)⟩
    rw [if_neg c, if_neg c2, hW c c2] at k
    have cl : w32 r2 = clamp (gL h 338 (ti T i 9).toNat) := by
      unfold clamp
      rw [w32_of ⟨by omega, by omega⟩]
      split
      · omega
      · split <;> omega
    rw [cl]
    exact k
  · rw [if_neg c, if_pos c2] at k
    exact k
  · rw [if_pos c] at k
    exact k
theorem sp_layFields {a i : Nat} {K : zLyK} {s : zLyS} {V : Nat → Prop} (hd : 2 ≤ d) (hS : zSh h) (h8 : dOk h 8) (e5 : gR h 215 5 = a) (hTa : zT 369 a = (108, 2)) (eT : xT h a = T) (ok : tOk T) (hi : i < T.length) (eb : (dv h 8).1 = bs) (hk : ti T i 0 ≤ 4) (rl : xRl h T s V K) (s0 : lB s = 0) (h31 : 0 ≤ gI h 215 1) (hf : fsOk bs s) (ia : itA T K i s) (p0 : 0 ≤ lP s) (p1 : lP s ≤ 1000000)
    (vF : 2 ≤ ti T i 0 → V (ti T i 11).toNat ∧ V (ti T i 12).toNat ∧ ∀ x ∈ K, x.1 ≠ (ti T i 12).toNat) (vC : ti T i 8 ≠ 0 → ti T i 9 ≠ -1 → V (ti T i 9).toNat ∧ tPl T (ti T i 9).toNat)
    (pth : kPath T K = (List.range K.length).map (gI h 337))
    (k : ∀ h', zSh h' → zF4 (xLw K.length) h h' → xVs h' (lAll T bs K i s) → (lB (lAll T bs K i s) = 0 → xRl h' T (lAll T bs K i s) V K) → Q none h') :
    wpN G d M_X6_layFields 0 (zar 0 [vR 215, vI (i : Int), vI (K.length : Int)]) [] h Q := by
  obtain ⟨r1, r2, r3, r4, r5, r6, r7⟩ := rl
  have l24 := ok.1
  have la := ztmp hTa
  have hl := ia.2.1
  have cr := tCnt_rng ok hi (W := lW s)
  have edp : (K.length : Int).toNat = K.length := by omega
  have ei : (i : Int).toNat = i := by omega
  have hb := dv8_len h8
  rw [eb] at hb
  have h82 : gI h 9 1 ≤ 200 := h8.1.2
  obtain ⟨⟨_, ⟨n1, _⟩, _⟩, _⟩ := ok.2.2 i hi
  have hTi := zitm hTa (show i < 24 by omega)
  have keepF : ∀ g, zF4 (fun b j => xLy b j ∨ (b = 337 ∧ j = K.length)) h g → (∀ b j, b ≠ 215 → (b < 217 ∨ 337 < b) → gI g b j = gI h b j) ∧ (∀ j, j ≠ K.length → gI g 337 j = gI h 337 j) ∧ gI g 215 7 = gI h 215 7 ∧ (∀ j, gL g 338 j = gL h 338 j) ∧ xT g a = T ∧ dOk g 8 ∧ (dv g 8).1 = bs ∧ gR g 215 5 = a := by
    intro g F
    have q1 : ∀ b j, b ≠ 215 → (b < 217 ∨ 337 < b) → gI g b j = gI h b j := fun b j w1 w2 => F.I _ _ (by
      rintro ((⟨z, _⟩ | ⟨z, z2⟩) | ⟨z, _⟩) <;> omega)
    have f3 : zF3 (fun b => b = 215 ∨ (217 ≤ b ∧ b ≤ 337)) h g := fun b hb => ⟨fun j => q1 b j (by omega) (by omega), fun j => (F.1 b j (by rintro ((⟨z, _⟩ | ⟨z, z2⟩) | ⟨z, _⟩) <;> omega)).2, fun j => F.2 b j⟩
    refine ⟨q1, fun j w => F.I _ _ (by rintro ((⟨z, _⟩ | ⟨z, z2⟩) | ⟨_, z⟩) <;> omega), F.I _ _ (by rintro ((⟨_, z⟩ | ⟨z, z2⟩) | ⟨z, _⟩) <;> omega), fun j => (F.1 338 j (by rintro ((⟨z, _⟩ | ⟨z, z2⟩) | ⟨z, _⟩) <;> omega)).2, ?_, dOk_f3 f3 (by rintro b ⟨w1, w2⟩ w; omega) h8, ?_, by rw [F.2, e5]⟩
    · have hu : gI h a 1 ≤ 24 := by
        have := xT_len (h := h) (a := a)
        rw [eT] at this
        omega
      rw [xT_I (h' := g) (h := h) (q1 _ _ (by omega) (by omega)) (fun b j _ _ => q1 _ _ (by omega) (by omega)) hu, eT]
    · rw [dv_f3 8 f3 (by rintro b ⟨w1, w2⟩ w; omega), eb]
  -- behind the fields
  have fin : ∀ (g : zHp) (s' : zLyS), zSh g → zF4 (fun b j => xLy b j ∨ (b = 337 ∧ j = K.length)) h g → xVs g s' → fsOk bs s' → lRep T bs K i (tCnt T (lW s) i).toNat 0 s = s' → wpN G (d - 1) M_X5_isPlainInteger 0 (zar 0 [vR (a + 2 + i)]) [] g (qI (fun z2 h3 => zSh h3 ∧ ((z2 = 0 → Q none h3) ∧ (z2 ≠ 0 → (((gI h3 215 2) ≠ 0 → Q none h3) ∧ ((gI h3 215 2) = 0 → (((gI h3 215 1) ≤ 0 → Q none h3) ∧ (0 < (gI h3 215 1) → ((-2147483648 ≤ (gI h3 215 1) - 1 ∧ (gI h3 215 1) - 1 ≤ 2147483647) ∧ (((0 : Int) ≤ ((gI h3 215 1) - 1) ∧ ((gI h3 215 1) - 1) < ((60 : Nat) : Int)) ∧ (wpN G (d - 1) M_X0_read 0 (zar 0 [vR 9, vR (217 + 2 * ((gI h3 215 1) - 1).toNat)]) [] h3 (qL (fun z9 h10 => zSh h10 ∧ (((0 : Int) ≤ (i : Int) ∧ (i : Int) < ((24 : Nat) : Int)) ∧ (∀ h13 : zHp, h13 = sL h10 338 (i : Int).toNat z9 → Q none h13))))))))))))))) := by
    intro g s' sg F vs fs' e
    obtain ⟨q1, q2, q3, q4, qT, q8, qb, q5⟩ := keepF g F
    have F' : zF4 (xLw K.length) h g := F.mono (fun b j w => by rcases w with w | w; exact Or.inl w; exact Or.inr (Or.inl w))
    obtain ⟨w1, w2, w3, w4⟩ := lRep_keep (T := T) (bs := bs) (K := K) (i := i) (tCnt T (lW s) i).toNat 0 s
    rw [e] at w1 w2 w3 w4
    have x1 : lF s' = xFs g := congrArg Prod.fst vs.1
    have x2 : lB s' = gI g 215 2 := congrArg (fun x => x.2.1) vs.1
    have x3 : lP s' = gI g 215 3 := congrArg (fun x => x.2.2) vs.1
    -- nothing is set
    have plain : (¬ (lB s' = 0 ∧ (ti T i 0 = 0 ∨ ti T i 0 = 1) ∧ ti T i 8 = 0)) → Q none g := by
      intro nb
      have ea : lAll T bs K i s = s' := by unfold lAll; rw [e, if_neg nb]
      rw [ea] at k
      refine k g sg F' vs (fun lb => ⟨x1, x2, x3, by rw [w4, r4, q3], fun j hj => by rw [w2, r5 j hj, q1 _ _ (by omega) (by omega)], fun j hj hx => by rw [w3, r6 j hj hx, q1 _ _ (by omega) (by omega)], fun j hj pl => by rw [w1, r7 j hj pl, q4]⟩)
    refine sp_isPlain sg hTa qT l24 hi (fun r hr => qI_i ⟨sg, fun z => plain (fun w => ?_), fun z => ⟨fun c => plain (fun w => ?_), fun c => ⟨fun c2 => ?_, fun c2 => ?_⟩⟩⟩)
    · rcases hr with ⟨q, _⟩ | ⟨_, q⟩
      · omega
      · exact q w.2
    · rw [x2] at w; exact c w.1
    · exfalso
      have pl : tPl T i := by rcases hr with ⟨_, q⟩ | ⟨q, _⟩; exact q; exact absurd q z
      have c1 : tCnt T (lW s) i = 1 := by unfold tCnt; rw [if_pos pl.2]
      rw [c1, show (1 : Int).toNat = 0 + 1 from rfl, lRep, if_pos s0, lRep] at e
      obtain ⟨o1, _⟩ := lOne_ok (T := T) (bs := bs) (K := K) (i := i) (r := 0) (s := s) (by rw [e, x2]; exact c)
      have := congrArg List.length o1
      rw [e, x1, xFs_len, List.length_append] at this
      have l1 : ([lFd T K i 0 s] : List (List Int × List Int)).length = 1 := rfl
      omega
    · have pl : tPl T i := by rcases hr with ⟨_, q⟩ | ⟨q, _⟩; exact q; exact absurd q z
      have l60 := fs'.1
      rw [x1, xFs_len] at l60
      obtain ⟨n, en⟩ : ∃ n : Nat, gI g 215 1 = (n : Int) + 1 := ⟨(gI g 215 1 - 1).toNat, by omega⟩
      have eq : (gI g 215 1 - 1).toNat = n := by omega
      rw [eq]
      have lastm : xFl g n ∈ lF s' := by rw [x1]; exact List.mem_map.mpr ⟨n, List.mem_range.mpr (by omega), rfl⟩
      have e9 : gI g 9 1 = gI h 9 1 := q1 _ _ (by omega) (by omega)
      obtain ⟨⟨fi, _, _⟩, _⟩ := xFl_ok (fs'.2 _ lastm) (by rw [hb, e9])
      have by8 : byOk (gI g 10) (gI g 9 1) := fun j hj => q8.2.1 j (by have := q8.1.2; show j < 200; have e : gI g (8 + 1) 1 = gI g 9 1 := rfl; omega)
      refine ⟨by omega, by omega, sp_X0_read tT_9 (zfds (by omega)) sg ⟨q8.1.1, by rw [show zlen (9 + 1) = 200 from zdocL zT_8]; exact q8.1.2⟩ by8 fi (fun v ev => qL_i ⟨sg, ⟨by omega, by omega⟩, fun h13 e13 => ?_⟩)⟩
      rw [ei] at e13
      have lb : lB s' = 0 := by rw [x2]; exact c
      have ea : lAll T bs K i s = lSetW s' i (fdV bs ((lF s').getLastD ([], []))) := by unfold lAll; rw [e, if_pos ⟨lb, pl⟩]
      have F13 : zF4 (xLw K.length) h h13 := by rw [e13]; exact F'.tr (zF4.sL (Or.inr (Or.inr rfl)))
      have i13 : ∀ b j, gI h13 b j = gI g b j := fun b j => by rw [e13]; rfl
      have w13 : ∀ j, gL h13 338 j = if j = i then v else gL h 338 j := fun j => by
        rw [e13, gL_sL]
        by_cases w : j = i
        · rw [if_pos ⟨rfl, w⟩, if_pos w]
        · rw [if_neg (fun z => w z.2), if_neg w, q4]
      have fs13 : xFs h13 = xFs g := by
        unfold xFs xFl
        simp only [i13]
      have elst : (lF s').getLastD ([], []) = xFl g n := by
        rw [x1]
        unfold xFs
        rw [en, show ((n : Int) + 1).toNat = n + 1 by omega, List.range_succ, List.map_append]
        simp
      have vv : fdV bs (xFl g n) = v := by
        rw [ev]
        show fVal (tg bs) (gI g (217 + 2 * n) 0) (gI g (217 + 2 * n) 1) (gI g (217 + 2 * n) 2) (gI g (217 + 2 * n) 3) = _
        obtain ⟨y1, y2, y3⟩ := fi
        refine fVal_congr y2 (by rcases y1 with w | w | w <;> omega) (fun j hj hj2 => ?_)
        rw [← qb]
        show tg (lst (gI g 10) (gI g 9 1)) j = gI g 10 j
        exact lst_tg (i := (j : Int)) (by omega) (by omega)
      rw [ea, elst, vv] at k
      refine k h13 (F13.Sh hS) F13 ⟨?_, by rw [i13]; omega⟩ (fun _ => ⟨?_, ?_, ?_, ?_, fun j hj => ?_, fun j hj hx => ?_, fun j hj pj => ?_⟩)
      · show (lF s', (lB s', lP s')) = _
        rw [x1, x2, x3, fs13, i13, i13]
      · show lF s' = _
        rw [x1, fs13]
      · show lB s' = _
        rw [x2, i13]
      · show lP s' = _
        rw [x3, i13]
      · show lS s' = _
        rw [w4, r4, i13, q3]
      · show lG s' j = _
        rw [w2, r5 j hj, i13, q1 _ _ (by omega) (by omega)]
      · show lE s' j = _
        rw [w3, r6 j hj hx, i13, q1 _ _ (by omega) (by omega)]
      · show upF (lW s') i v j = _
        unfold upF
        rw [w13]
        by_cases w : j = i
        · rw [if_pos w, if_pos w]
        · rw [if_neg w, if_neg w, w1, r7 j hj pj]
  have loop : ∀ (m r : Nat) (g : zHp) (s' : zLyS), (r : Int) + m = tCnt T (lW s) i → zSh g → zF4 (fun b j => xLy b j ∨ (b = 337 ∧ j = K.length)) h g → xVs g s' → fsOk bs s' → itA T K i s' → lP s ≤ lP s' → lP s' ≤ 1000000 → lRep T bs K i m (r : Int) s' = lRep T bs K i (tCnt T (lW s) i).toNat 0 s → lG s' = lG s → lE s' = lE s → wpN G d M_X6_layFields 20 [(0, vR 215), (1, vI (i : Int)), (2, vI (K.length : Int)), (3, vR (a + 2 + i)), (4, vI (tCnt T (lW s) i)), (5, vI (r : Int))] [] g Q := by
    intro m
    induction m with
    | zero =>
      intro r g s' hr sg F vs fs' ia' pp pq e eg ee
      rw [lRep] at e
      refine vc_X6_layFields_20 i K.length (a + 2 + i) hTi _ r g sg hd (fun _ _ _ _ _ _ => False) (fun _ _ _ _ _ _ q => q.elim) ⟨fun c => fin g s' sg F vs fs' e.symm, fun c => by omega⟩
    | succ m ih =>
      intro r g s' hr sg F vs fs' ia' pp pq e eg ee
      obtain ⟨q1, q2, q3, q4, qT, q8, qb, q5⟩ := keepF g F
      have x1 : lF s' = xFs g := congrArg Prod.fst vs.1
      have x2 : lB s' = gI g 215 2 := congrArg (fun x => x.2.1) vs.1
      have x3 : lP s' = gI g 215 3 := congrArg (fun x => x.2.2) vs.1
      have t1 : gI g (a + 2 + i) 1 = ti T i 1 := xtt qT hi (by omega)
      have l60 := fs'.1
      rw [x1, xFs_len] at l60
      refine vc_X6_layFields_20 i K.length (a + 2 + i) hTi _ r g sg hd (fun y1 y2 y3 y4 y5 g' => y1 = (i : Int) ∧ y2 = (K.length : Int) ∧ y3 = a + 2 + i ∧ y4 = tCnt T (lW s) i ∧ y5 = ((r + 1 : Nat) : Int) ∧ wpN G d M_X6_layFields 20 [(0, vR 215), (1, vI (i : Int)), (2, vI (K.length : Int)), (3, vR (a + 2 + i)), (4, vI (tCnt T (lW s) i)), (5, vI ((r + 1 : Nat) : Int))] [] g' Q) ?_ ⟨fun c => by omega, fun c => ⟨fun c2 => ?_, fun c2 => ⟨by omega, by omega, ⟨by omega, by omega⟩, fun h29 e29 => ?_⟩⟩⟩
      · rintro _ _ _ _ _ _ ⟨z0, z1, z2, z3, z4, z5⟩
        rw [z0, z1, z2, z3, z4]
        exact z5
      · have nb : lB s' ≠ 0 := by rw [x2]; exact c2
        rw [lRep_broken nb] at e
        exact fin g s' sg F vs fs' e.symm
      · rw [edp, t1] at e29
        have lb : lB s' = 0 := by rw [x2]; exact c2
        rw [lRep, if_pos lb] at e
        have F29 : zF4 (fun b j => xLy b j ∨ (b = 337 ∧ j = K.length)) h h29 := by rw [e29]; exact F.tr (zF4.sI (Or.inr ⟨rfl, rfl⟩))
        have o29 : ∀ b j, ¬ (b = 337 ∧ j = K.length) → gI h29 b j = gI g b j := fun b j w => by rw [e29, gI_sI, if_neg w]
        obtain ⟨u1, u2, u3, u4, uT, u8, ub, u5⟩ := keepF h29 F29
        have fs29 : xFs h29 = xFs g := xFs_I (o29 _ _ (by omega)) (fun b j _ _ => o29 _ _ (by omega)) (by omega)
        have n29 : gI h29 215 1 = ((gI g 215 1).toNat : Int) := by rw [o29 _ _ (by omega)]; have := vs.2; omega
        refine sp_layField (n := (gI g 215 1).toNat) (r := (r : Int)) (s := s') (by omega) (F29.Sh hS) u8 hTa uT ok hi ub hl hk n29 l60 (by rw [o29 _ _ (by omega), ← x3]; omega) (by rw [o29 _ _ (by omega), ← x3]; exact pq) (by rw [fs29, x1]) lb (by rw [o29 _ _ (by omega)]; exact c2) (by rw [o29 _ _ (by omega), x3]) (fun w => ?_) (fun w => ?_) ?_ (by rw [e29, gI_sI, if_pos ⟨rfl, rfl⟩]) (fun h' sh' F' f1 f2 f3 f4 => qV_i ⟨sh', by omega, fun x35 e35 _ => ⟨rfl, rfl, rfl, rfl, by omega, ?_⟩⟩)
        · rw [eg, r5 _ (vF w).1, u1 _ _ (by omega) (by omega)]
        · rw [ee, r6 _ (vF w).2.1 (vF w).2.2, u1 _ _ (by omega) (by omega)]
        · rw [pth]
          refine List.map_congr_left (fun x hx => ?_)
          have hx2 := List.mem_range.mp hx
          rw [u2 _ (by omega)]
        · obtain ⟨w1, w2, w3, w4⟩ := lOne_keep (T := T) (bs := bs) (K := K) (i := i) (r := (r : Int)) (s := s')
          obtain ⟨v1, v2, v3⟩ := lOne_ok2 (bs := bs) (r := (r : Int)) ia' fs' (by omega)
          refine ih (r + 1) h' _ (by omega) sh' (F29.tr (F'.mono (fun b j w => Or.inl w))) ⟨?_, by omega⟩ v1 (itA_up ia' w2 w3 v2) (by omega) (by omega) e (by rw [w2, eg]) (by rw [w3, ee])
          unfold lVis
          rw [f1, f2, f3]
  refine vc_X6_layFields_0 i K.length h hS hd (fun y1 y2 y3 y4 y5 g => y1 = (i : Int) ∧ y2 = (K.length : Int) ∧ y3 = a + 2 + i ∧ y4 = tCnt T (lW s) i ∧ y5 = ((0 : Nat) : Int) ∧ g = h) ?_ ?_
  · rintro _ _ _ _ _ _ ⟨z0, z1, z2, z3, z4, z5⟩
    rw [z0, z1, z2, z3, z4, z5]
    exact loop (tCnt T (lW s) i).toNat 0 h s (by omega) hS zF4.rf ⟨by unfold lVis; rw [r1, r2, r3], h31⟩ hf ia (Int.le_refl _) p1 rfl rfl rfl
  · rw [e5, ei]
    exact ⟨hTa, ⟨by omega, by omega⟩, sp_repOf (W := lW s) (by omega) hS hTa eT ok hi (fun c c2 => r7 _ (vC c c2).1 (vC c c2).2) (qI_i ⟨hS, fun _ => ⟨rfl, rfl, rfl, rfl, rfl, rfl⟩⟩)⟩
end XLF
