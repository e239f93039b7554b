/-! an item passed, a layout computed by the model -/
section MOUT
variable {G : zG} {d : Nat} {Q : Option zV → zHp → Prop} {h : zHp} {T : List (List Int)} {bs : List Int} {off : Int}
theorem sp_passes {t i : Nat} {K : zLyK} {s : zLyS} (hd : 3 ≤ d) (hS : zSh h) (h8 : mdOk h 344 0) (ht : t < 5) (ok : tOk T) (r : mTr h t T) (eb : bM h = bs) (hi : i < T.length) (ki : kIn T K i) (m : mSim h t K s (vis T i K)) (h31 : 0 ≤ gI h 343 31) (s0 : lB s = 0) (hf : fsOk bs s) (hs : sOk off s)
    (k : ∀ h' z, zSh h' → zF4 mLf h h' → mRes h' t (fun x => vis T i K x ∨ x = i) (lPass T bs off i K s) z → Q (some (vI z)) h') : wpN G d M_X11_passes 0 (zar 0 [vR 343, vI (t : Int), vI (i : Int), vI off]) [] h Q := by
  have l24 := ok.1
  have ei : (i : Int).toNat = i := by omega
  obtain ⟨hmR, hm41, hmK, hmN⟩ := m
  have e34 : lS s = gI h 343 34 := hmR.2.2.2.1
  obtain ⟨⟨hs1, hs2⟩, hs3, hs4, hs5⟩ := hs
  obtain ⟨_, ⟨b1, _⟩, _⟩ := ok.2.2 i hi
  obtain ⟨_, _, _, _, _, _, m7, m8, _, _, _, m12, _⟩ := r.2 i hi
  refine vc_X11_passes_0 t i off h hS hd ⟨by omega, fun h1 e1 => ?_⟩
  have a34 : gI h1 343 34 = gI h 343 34 + 1 := by rw [e1, gI_sI, if_pos ⟨rfl, rfl⟩]
  refine ⟨fun c => ⟨⟨by omega, by omega⟩, fun h4 e4 => ⟨⟨by omega, by omega⟩, fun h6 e6 => ⟨⟨by omega, by omega⟩, fun h9 e9 => ?_⟩⟩⟩, fun c h128 e128 => ?_⟩
  · rw [ei] at e4 e6 e9
    obtain ⟨rl, o, q34, qW, qR⟩ := mcome hmR (by omega) e1 e4 e6 e9
    have F9 : zF4 mLf h h9 := by
      rw [e9, e6, e4, e1]
      exact (zF4.sI (Or.inl ⟨rfl, by omega, by omega⟩)).tr ((zF4.sI (Or.inr ⟨by omega, by omega⟩)).tr ((zF4.sI (Or.inr ⟨by omega, by omega⟩)).tr (zF4.sL (Or.inr ⟨by omega, by omega⟩))))
    have s9 := F9.Sh hS
    have r9 := mTr_F F9 mLf_351 mLf_352 r
    have g8 := mdOk_F4 F9 mLf_344 h8
    have eb9 : bM h9 = bs := by rw [bM_F4 F9 mLf_344 h8, eb]
    have mi9 : ∀ a f, mi h9 t a f = mi h t a f := fun a f => mi_F F9 mLf_351 t a f
    have sim9 : mSim h9 t K (lCome i (lTick s)) (fun x => vis T i K x ∨ x = i) := ⟨rl, by rw [o _ _ (by omega) (by omega) (by omega)]; exact hm41, by rw [mKs_eq (h := h) (fun b j q => o _ _ (by omega) (by omega) (by omega))]; exact hmK, fun x hx => by rw [o _ _ (by omega) (by omega) (by omega)]; exact hmN x hx⟩
    obtain ⟨v1, v2, v3, v4, v5⟩ := lTick_vis s
    have tk : lS (lTick s) = lS s + 1 ∧ lB (lTick s) = lB s := by
      rcases lTick_cases s with ⟨q1, q2⟩ | ⟨q1, q2, q3⟩
      · omega
      · exact ⟨q2, q3⟩
    have b9 : lB (lCome i (lTick s)) = 0 := by rw [← s0, ← tk.2]; rfl
    have f9 : fsOk bs (lCome i (lTick s)) := by
      have q : lF (lCome i (lTick s)) = lF s := v1
      unfold fsOk
      rw [q]
      exact hf
    have so9 : sOk off (lCome i (lTick s)) := by
      have q1 : lS (lCome i (lTick s)) = lS s + 1 := tk.1
      have q2 : lP (lCome i (lTick s)) = lP s := v2
      unfold sOk
      rw [q1, q2]
      omega
    have p9 : 0 ≤ gI h9 343 31 := by rw [o _ _ (by omega) (by omega) (by omega)]; exact h31
    have lp : lPass T bs off i K s = lGo T bs off i K (lCome i (lTick s)) := by unfold lPass; rw [if_neg (by omega)]
    rw [lp] at k
    have body : ¬ (ti T i 6 ≠ -1 ∧ lW (lCome i (lTick s)) (ti T i 6).toNat ≠ ti T i 7) → mPB G d Q (t : Int) (i : Int) off h9 := fun nab =>
      sp_pbody hd s9 g8 ht ok r9 eb9 hi ki rfl sim9 p9 b9 f9 so9 nab (fun h' z sh F rr => k h' z sh (F9.tr F) rr)
    refine sp_of (f := 2) s9 ht (by omega) (by omega) (qI_i ⟨s9, fun cn => body ?_, fun cp => ?_⟩)
    · rw [mi9, m7] at cn
      rintro ⟨w, _⟩
      rcases b1 with q | ⟨q, _⟩
      · exact w q.1
      · have := q.1; omega
    · rw [mi9, m7] at cp ⊢
      have hr : tRef T i (ti T i 6) := by
        rcases b1 with q | ⟨q, _⟩
        · omega
        · exact q
      have hlt := hr.2.1
      have eW : lW (lCome i (lTick s)) (ti T i 6).toNat = gL h9 362 (ti T i 6).toNat := rl.2.2.2.2.2 _ (Or.inl (vis_ref hi ki hr)) (by rw [mT_of ok r9]; exact hr.2.2.1)
      refine ⟨⟨by omega, by omega⟩, sp_of (f := 3) s9 ht (by omega) (by omega) (qI_i ⟨s9, fun ce => body ?_, fun cne => ?_⟩)⟩
      · rw [mi9, m8] at ce
        rintro ⟨_, w⟩
        rw [eW] at w
        exact w ce
      · rw [mi9, m8] at cne
        have go : lGo T bs off i K (lCome i (lTick s)) = ((ti T i 5).toNat, (K, lCome i (lTick s))) := by
          unfold lGo
          rw [if_pos ⟨by omega, by rw [eW]; exact cne⟩]
        have e5 := (ok.2.2 i hi).2.2.2.1.1
        refine sp_of (f := 9) s9 ht (by omega) (by omega) (qI_i ⟨s9, k h9 _ s9 F9 ?_⟩)
        rw [go]
        refine ⟨⟨mRl_vis rl, p9⟩, fun _ => ⟨?_, sim9⟩⟩
        rw [mi9, m12]
        show ti T i 5 = ((ti T i 5).toNat : Int)
        omega
  · have F : zF4 mLf h h128 := by
      rw [e128, e1]
      exact (zF4.sI (Or.inl ⟨rfl, by omega, by omega⟩)).tr (zF4.sI (Or.inl ⟨rfl, by omega, by omega⟩))
    have lp : lPass T bs off i K s = (i, (K, lSetB s 3)) := by unfold lPass; rw [if_pos (by omega)]
    rw [lp] at k
    have o : ∀ b j, ¬ (b = 343 ∧ (j = 32 ∨ j = 34)) → gI h128 b j = gI h b j := fun b j q => by rw [e128, gI_sI, if_neg (by omega), e1, gI_sI, if_neg (by omega)]
    refine k h128 _ (F.Sh hS) F ⟨⟨?_, by rw [o _ _ (by omega)]; exact h31⟩, fun w => absurd w (by show ¬ (3 : Int) = 0; omega)⟩
    show (lF s, ((3 : Int), lP s)) = _
    rw [hmR.1, hmR.2.2.1, o 343 33 (by omega), mFs_I (h' := h128) (h := h) (o _ _ (by omega)) (fun b j _ _ => o _ _ (by omega)), e128, gI_sI, if_pos ⟨rfl, rfl⟩]
theorem mSim_mono {t : Nat} {K : zLyK} {s : zLyS} {V V' : Nat → Prop} (m : mSim h t K s V) (hv : ∀ j, V' j → V j) : mSim h t K s V' := ⟨mRl_mono m.1 hv, m.2⟩
theorem lPass_at (ok : tOk T) {i : Nat} {K : zLyK} {s : zLyS} (hi : i < T.length) (ki : kIn T K i) (hb : lB (lPass T bs off i K s).2.2 = 0) : ∀ r, vis T (lPass T bs off i K s).1 (lPass T bs off i K s).2.1 r → vis T i K r ∨ r = i := by
  obtain ⟨nx, nv⟩ := kAt_next ok hi ki
  unfold lPass at hb ⊢
  split
  · rename_i q
    rw [if_pos q] at hb
    exact absurd hb (by show ¬ (3 : Int) = 0; omega)
  · unfold lGo
    split
    · exact nv
    · split
      · rename_i q5
        split
        · exact nv
        · rename_i qc
          have cr := tCnt_rng ok hi (W := lW (lCome i (lTick s)))
          exact (kAt_in ok hi q5 ki (c := tCnt T (lW (lCome i (lTick s))) i) (u := 0) (by omega)).2
      · split
        · exact nv
        · split
          · exact nv
          · exact nv
theorem mKs_top {t c u : Int} {dp tt : Nat} {K : zLyK} (e : mKs h (dp + 1) = (tt, (c, u)) :: K) : (gI h 365 dp).toNat = tt ∧ gI h 366 dp = c ∧ gI h 367 dp = u ∧ mKs h dp = K := by
  unfold mKs at e
  rw [List.range_succ, List.map_append, List.reverse_append] at e
  have e2 : ((gI h 365 dp).toNat, (gI h 366 dp, gI h 367 dp)) :: mKs h dp = (tt, (c, u)) :: K := e
  obtain ⟨e3, e4⟩ := List.cons.inj e2
  have e5 := congrArg Prod.fst e3
  have e6 := congrArg (fun x => x.2.1) e3
  have e7 := congrArg (fun x => x.2.2) e3
  exact ⟨e5, e6, e7, e4⟩
theorem sp_laysOut {o t : Nat} (hd : 4 ≤ d) (hS : zSh h) (h8 : mdOk h 344 0) (ho : o < 4) (et : gI h 344 (202 + 3 * o) = (t : Int)) (ht : t < 5) (eo : gI h 344 (203 + 3 * o) = off) (o0 : 0 ≤ off) (o1 : off ≤ 200) (ok : tOk T) (r : mTr h t T) (eb : bM h = bs)
    (k : ∀ h', zSh h' → zF4 mLf h h' → layT T bs off = (mFs h', (gI h' 343 32, gI h' 343 33)) → 0 ≤ gI h' 343 31 → Q none h') : wpN G d M_X11_laysOut 0 (zar 0 [vR 343, vI (o : Int)]) [] h Q := by
  have l24 := ok.1
  have hbs : bs.length ≤ 200 := by
    have q1 := bM_len h8
    have q2 : gI h 344 200 ≤ 200 := h8.1.2
    rw [eb] at q1
    omega
  have loop : ∀ (n : Nat) (c : zLyC) (g : zHp) (y4 : Int), lHalt T (lIt T bs off n c) → lVis (lIt T bs off n c).2.2 = layT T bs off → zSh g → zF4 mLf h g → mVs g c.2.2 → cInv T bs off c → (lB c.2.2 = 0 → y4 = (c.1 : Int) ∧ mSim g t c.2.1 c.2.2 (vis T c.1 c.2.1)) → wpN G d M_X11_laysOut 40 [(0, vR 343), (1, vI (o : Int)), (2, vI (t : Int)), (3, vI off), (4, vI y4)] [] g Q := by
    intro n
    induction n with
    | zero =>
      intro c g y4 hh hv sg F vs ci sm
      have hh : lHalt T c := hh
      have hv : lVis c.2.2 = layT T bs off := hv
      have fin : Q none g := k g sg F (by rw [← hv]; exact vs.1) vs.2
      have e32 : lB c.2.2 = gI g 343 32 := congrArg (fun x => x.2.1) vs.1
      refine vc_X11_laysOut_40 o t off y4 g sg hd (fun _ _ _ _ _ => False) (fun _ _ _ _ _ q => q.elim) ⟨fun _ => fin, fun c1 => ?_⟩
      rcases hh with q | ⟨q1, q2⟩
      · rw [e32] at q; exact absurd c1 q
      · obtain ⟨ey, _, e41, _⟩ := sm (by rw [e32]; exact c1)
        rw [q1] at e41
        have e41 : gI g 343 41 = 0 := e41
        have e352 : gI g 352 t = (T.length : Int) := by rw [F.I _ _ (mLf_352 t)]; exact r.1
        refine ⟨fun c2 => by omega, fun c2 => ⟨⟨by omega, by omega⟩, fun c3 => fin, fun c3 => ?_⟩⟩
        rw [show (t : Int).toNat = t by omega, e352] at c3
        omega
    | succ n ih =>
      intro c g y4 hh hv sg F vs ci sm
      have e32 : lB c.2.2 = gI g 343 32 := congrArg (fun x => x.2.1) vs.1
      have e352 : gI g 352 t = (T.length : Int) := by rw [F.I _ _ (mLf_352 t)]; exact r.1
      have rg := mTr_F F mLf_351 mLf_352 r
      have g8 := mdOk_F4 F mLf_344 h8
      have ebg : bM g = bs := by rw [bM_F4 F mLf_344 h8, eb]
      by_cases hc : lHalt T c
      · have e0 : lIt T bs off (n + 1) c = c := lIt_halt hc _
        rw [e0] at hv
        have fin : Q none g := k g sg F (by rw [← hv]; exact vs.1) vs.2
        refine vc_X11_laysOut_40 o t off y4 g sg hd (fun _ _ _ _ _ => False) (fun _ _ _ _ _ q => q.elim) ⟨fun _ => fin, fun c1 => ?_⟩
        rcases hc with q | ⟨q1, q2⟩
        · rw [e32] at q; exact absurd c1 q
        · obtain ⟨ey, _, e41, _⟩ := sm (by rw [e32]; exact c1)
          rw [q1] at e41
          have e41 : gI g 343 41 = 0 := e41
          refine ⟨fun c2 => by omega, fun c2 => ⟨⟨by omega, by omega⟩, fun c3 => fin, fun c3 => ?_⟩⟩
          rw [show (t : Int).toNat = t by omega, e352] at c3
          omega
      · have ci' := cInv_step ok hbs ci hc
        rw [lIt] at hh hv
        have hb : lB c.2.2 = 0 := by
          by_cases q : lB c.2.2 = 0
          · exact q
          · exact absurd (Or.inl q) hc
        obtain ⟨ey, sim⟩ := sm hb
        obtain ⟨hf, hn⟩ := ci
        obtain ⟨ka, hs, hr⟩ := hn hb
        obtain ⟨i, K, s⟩ := c
        have go : ∀ (g' : zHp) (z : Int), zSh g' → zF4 mLf g g' → mVs g' (lStep T bs off (i, (K, s))).2.2 → (lB (lStep T bs off (i, (K, s))).2.2 = 0 → z = ((lStep T bs off (i, (K, s))).1 : Int) ∧ mSim g' t (lStep T bs off (i, (K, s))).2.1 (lStep T bs off (i, (K, s))).2.2 (vis T (lStep T bs off (i, (K, s))).1 (lStep T bs off (i, (K, s))).2.1)) → wpN G d M_X11_laysOut 40 [(0, vR 343), (1, vI (o : Int)), (2, vI (t : Int)), (3, vI off), (4, vI z)] [] g' Q :=
          fun g' z s' F' vs' sm' => ih _ g' z hh hv s' (F.tr F') vs' ci' sm'
        have ey : y4 = (i : Int) := ey
        cases K with
        | nil =>
          have hi : i < T.length := by
            by_cases q : T.length ≤ i
            · exact absurd (Or.inr ⟨rfl, q⟩) hc
            · omega
          have ki : kIn T [] i := ka.2 hi
          have st : lStep T bs off (i, ([], s)) = lPass T bs off i [] s := by
            rw [lStep, if_neg (fun q => hc (by
              rcases q with q | q
              · exact Or.inl q
              · exact Or.inr ⟨rfl, q⟩))]
          rw [st] at go
          have e41 : gI g 343 41 = 0 := sim.2.1
          refine vc_X11_laysOut_40 o t off y4 g sg hd (fun y1 y2 y3 y4 g' => y1 = (o : Int) ∧ y2 = (t : Int) ∧ y3 = off ∧ wpN G d M_X11_laysOut 40 [(0, vR 343), (1, vI (o : Int)), (2, vI (t : Int)), (3, vI off), (4, vI y4)] [] g' Q) ?_ ⟨fun c1 => absurd (e32.symm.trans hb) c1, fun c1 => ⟨fun c2 => by omega, fun c2 => ⟨⟨by omega, by omega⟩, fun c3 => ?_, fun c3 => ⟨fun c4 => ?_, fun c4 => by omega⟩⟩⟩⟩
          · rintro _ _ _ z g' ⟨q0, q1, q2, q3⟩
            rw [q0, q1, q2]
            exact q3
          · rw [show (t : Int).toNat = t by omega, e352] at c3
            omega
          · rw [ey]
            refine sp_passes (by omega) sg g8 ht ok rg ebg hi ki sim vs.2 hb hf hs (fun g' z s' F' rr => qI_i ⟨s', fun _ => ⟨rfl, rfl, rfl, ?_⟩⟩)
            exact go g' z s' F' rr.1 (fun q => ⟨(rr.2 q).1, mSim_mono (rr.2 q).2 (lPass_at ok hi ki q)⟩)
        | cons e K =>
          obtain ⟨tt, c, u⟩ := e
          have e41 : gI g 343 41 = (K.length : Int) + 1 := by
            have q : gI g 343 41 = ((K.length + 1 : Nat) : Int) := sim.2.1
            omega
          have kl : K.length ≤ 2 := (kIn_len ok ka.2.2.2.2.1 ka.2.2.2.2.2.1).2 ka.2.2.1
          obtain ⟨tp1, tp2, tp3, tp4⟩ := mKs_top (t := 0) sim.2.2.1
          have tp0 : gI g 365 K.length = (tt : Int) := by
            have := sim.2.2.2 K.length (by show K.length < K.length + 1; omega)
            omega
          have ek : ((K.length : Int) + 1 - 1).toNat = K.length := by omega
          have htt := ka.2.2.2.2.1
          have m12 : mi g t tt 9 = ti T tt 5 := (rg.2 tt htt).2.2.2.2.2.2.2.2.2.2.2.1
          have cu := ka.2.2.2.1
          refine vc_X11_laysOut_40 o t off y4 g sg hd (fun y1 y2 y3 y4 g' => y1 = (o : Int) ∧ y2 = (t : Int) ∧ y3 = off ∧ wpN G d M_X11_laysOut 40 [(0, vR 343), (1, vI (o : Int)), (2, vI (t : Int)), (3, vI off), (4, vI y4)] [] g' Q) ?_ ⟨fun c1 => absurd (e32.symm.trans hb) c1, fun c1 => ⟨fun c2 => ⟨fun c3 => by omega, fun c3 => ⟨by omega, by omega, fun x9 e9 => ⟨fun c4 => ?_, fun c4 => ?_⟩⟩⟩, fun c2 => by omega⟩⟩
          · rintro _ _ _ z g' ⟨q0, q1, q2, q3⟩
            rw [q0, q1, q2]
            exact q3
          · rw [e41, ek, tp0] at e9
            omega
          · rw [e41, ek, tp0] at e9
            rw [e9, ey]
            refine sp_of (f := 9) sg ht (by omega) (by omega) (qI_i ⟨sg, fun c5 => ?_, fun c5 => ?_⟩)
            · rw [m12] at c5
              have st : lStep T bs off (i, ((tt, (c, u)) :: K, s)) = lPass T bs off i ((tt, (c, u)) :: K) s := by
                rw [lStep, if_neg (fun q => q hb), if_neg c5]
              rw [st] at go
              obtain ⟨hi, ki⟩ := kAt_pass ok ka c5
              refine sp_passes (by omega) sg g8 ht ok rg ebg hi ki sim vs.2 hb hf hs (fun g' z s' F' rr => qI_i ⟨s', fun _ => ⟨rfl, rfl, rfl, ?_⟩⟩)
              exact go g' z s' F' rr.1 (fun q => ⟨(rr.2 q).1, mSim_mono (rr.2 q).2 (lPass_at ok hi ki q)⟩)
            · rw [m12] at c5
              rw [e41, ek, tp3]
              refine ⟨by omega, ⟨by omega, by omega⟩, ⟨by omega, by omega⟩, ⟨by omega, by omega⟩, fun h25 e25 => ⟨⟨by omega, by omega⟩, fun h27 e27 => ?_⟩⟩
              rw [show (tt : Int).toNat = tt by omega] at e27
              have F25 : zF4 mLf g h25 := by rw [e25]; exact zF4.sI (Or.inr ⟨by omega, by omega⟩)
              have F27 : zF4 mLf g h27 := by rw [e27]; exact F25.tr (zF4.sI (Or.inr ⟨by omega, by omega⟩))
              have o25 : ∀ b j, ¬ (b = 367 ∧ j = K.length) → gI h25 b j = gI g b j := fun b j q => by rw [e25, gI_sI, if_neg q]
              have mt25 : mT h25 t = mT g t := mT_eq (o25 _ _ (by omega)) (fun a f => o25 _ _ (by omega))
              have rl25 : mRl h25 t s (vis T i ((tt, (c, u)) :: K)) := by
                obtain ⟨r1, r2, r3, r4, r5, r6⟩ := sim.1
                refine ⟨?_, ?_, ?_, ?_, fun j hj => ⟨?_, ?_⟩, fun j hj pl => ?_⟩
                · rw [mFs_I (h' := h25) (h := g) (o25 _ _ (by omega)) (fun b j _ _ => o25 _ _ (by omega))]; exact r1
                · rw [o25 _ _ (by omega)]; exact r2
                · rw [o25 _ _ (by omega)]; exact r3
                · rw [o25 _ _ (by omega)]; exact r4
                · rw [o25 _ _ (by omega)]; exact (r5 j hj).1
                · rw [o25 _ _ (by omega)]; exact (r5 j hj).2
                · rw [mt25] at pl
                  have : gL h25 362 j = gL g 362 j := by rw [e25]; rfl
                  rw [this]
                  exact r6 j hj pl
              obtain ⟨rl27, o27⟩ := msetE rl25 e27
              have w41 : gI h27 343 41 = (K.length : Int) + 1 := by rw [o27 _ _ (by omega), o25 _ _ (by omega), e41]
              have w366 : gI h27 366 K.length = c := by rw [o27 _ _ (by omega), o25 _ _ (by omega), tp2]
              have w367 : gI h27 367 K.length = u + 1 := by rw [o27 _ _ (by omega), e25, gI_sI, if_pos ⟨rfl, rfl⟩]
              have low : ∀ b j, b = 365 ∨ ((b = 366 ∨ b = 367) ∧ j < K.length) → gI h27 b j = gI g b j := fun b j q => by rw [o27 _ _ (by omega), o25 _ _ (by omega)]
              have ks27 : mKs h27 K.length = K := by
                refine Eq.trans ?_ tp4
                unfold mKs
                congr 1
                refine List.map_congr_left (fun x hx => ?_)
                have hx2 := List.mem_range.mp hx
                rw [low 365 x (Or.inl rfl), low 366 x (Or.inr ⟨Or.inl rfl, hx2⟩), low 367 x (Or.inr ⟨Or.inr rfl, hx2⟩)]
              have p27 : 0 ≤ gI h27 343 31 := by rw [o27 _ _ (by omega), o25 _ _ (by omega)]; exact vs.2
              have s27 := F27.Sh sg
              rw [w41, ek, w366, w367]
              refine ⟨by omega, ⟨by omega, by omega⟩, by omega, ⟨by omega, by omega⟩, fun c6 => ⟨by omega, fun h30 e30 _ => ⟨rfl, rfl, rfl, ?_⟩⟩, fun c6 => ?_⟩
              · -- the last turn
                have st : lStep T bs off (i, ((tt, (c, u)) :: K, s)) = (i, (K, lSetE s tt)) := by
                  rw [lStep, if_neg (fun q => q hb), if_pos c5, if_neg (by omega)]
                rw [st] at go
                have o30 : ∀ b j, ¬ (b = 343 ∧ j = 41) → gI h30 b j = gI h27 b j := fun b j q => by rw [e30, gI_sI, if_neg q]
                have F30 : zF4 mLf g h30 := by rw [e30]; exact F27.tr (zF4.sI (Or.inl ⟨rfl, by omega, by omega⟩))
                have mt30 : mT h30 t = mT h27 t := mT_eq (o30 _ _ (by omega)) (fun a f => o30 _ _ (by omega))
                have rl30 : mRl h30 t (lSetE s tt) (vis T i ((tt, (c, u)) :: K)) := by
                  obtain ⟨r1, r2, r3, r4, r5, r6⟩ := rl27
                  refine ⟨?_, ?_, ?_, ?_, fun j hj => ⟨?_, ?_⟩, fun j hj pl => ?_⟩
                  · rw [mFs_I (h' := h30) (h := h27) (o30 _ _ (by omega)) (fun b j _ _ => o30 _ _ (by omega))]; exact r1
                  · rw [o30 _ _ (by omega)]; exact r2
                  · rw [o30 _ _ (by omega)]; exact r3
                  · rw [o30 _ _ (by omega)]; exact r4
                  · rw [o30 _ _ (by omega)]; exact (r5 j hj).1
                  · rw [o30 _ _ (by omega)]; exact (r5 j hj).2
                  · rw [mt30] at pl
                    have : gL h30 362 j = gL h27 362 j := by rw [e30]; rfl
                    rw [this]
                    exact r6 j hj pl
                refine go h30 _ (F30.Sh sg) F30 ⟨mRl_vis rl30, by rw [o30 _ _ (by omega)]; exact p27⟩ (fun _ => ⟨rfl, mRl_mono rl30 (kAt_leave ok ka c5).2, ?_, ?_, fun x hx => ?_⟩)
                · rw [e30, gI_sI, if_pos ⟨rfl, rfl⟩]
                  show (K.length : Int) + 1 - 1 = (K.length : Int)
                  omega
                · show mKs h30 K.length = K
                  rw [mKs_eq (h := h27) (fun b j q => o30 _ _ (by omega))]; exact ks27
                · have hx2 : x < K.length := hx
                  rw [o30 _ _ (by omega), low 365 x (Or.inl rfl)]
                  exact sim.2.2.2 x (by show x < K.length + 1; omega)
              · -- once more
                have st : lStep T bs off (i, ((tt, (c, u)) :: K, s)) = (tt + 1, ((tt, (c, u + 1)) :: K, lTick (lSetE s tt))) := by
                  rw [lStep, if_neg (fun q => q hb), if_pos c5, if_pos (by omega)]
                rw [st] at go
                have hs1 : 0 ≤ lS s := hs.1.1
                have hs2 : lS s ≤ 400 := hs.1.2
                have e34 : lS (lSetE s tt) = gI h27 343 34 := rl27.2.2.2.1
                have e34' : lS (lSetE s tt) = lS s := rfl
                have b27 : gI h27 343 32 = 0 := by rw [← rl27.2.1]; exact hb
                refine sp_goesIn s27 (by omega) (by omega) (fun h33 s33 F33 f34 f32 => qV_i ⟨s33, ⟨by omega, by omega⟩, fun x36 e36 _ => ⟨rfl, rfl, rfl, ?_⟩⟩)
                have o33 : ∀ b j, ¬ (b = 343 ∧ (j = 32 ∨ j = 34)) → gI h33 b j = gI h27 b j := fun b j q => F33.I _ _ (fun w => q w)
                have F33' : zF4 mLf g h33 := F27.tr (F33.mono (fun b j q => Or.inl ⟨q.1, by have := q.2; omega, by have := q.2; omega⟩))
                obtain ⟨v1, v2, v3, v4, v5⟩ := lTick_vis (lSetE s tt)
                have fs33 : mFs h33 = mFs h27 := mFs_I (o33 _ _ (by omega)) (fun b j _ _ => o33 _ _ (by omega))
                have e32' : gI h33 343 32 = lB (lTick (lSetE s tt)) := by
                  rw [f32, b27, ← e34]
                  rcases lTick_cases (lSetE s tt) with ⟨q1, q2⟩ | ⟨q1, q2, q3⟩
                  · rw [if_pos (by omega), q2]; rfl
                  · rw [if_neg (by omega), q3]; exact hb.symm
                refine go h33 x36 s33 F33' ⟨?_, by rw [o33 _ _ (by omega)]; exact p27⟩ (fun w => ⟨?_, mRl_mono ?_ (kAt_turn ok ka (by omega)).2, ?_, ?_, fun x hx => ?_⟩)
                · show (lF (lTick (lSetE s tt)), (lB (lTick (lSetE s tt)), lP (lTick (lSetE s tt)))) = _
                  rw [v1, v2, rl27.1, rl27.2.2.1, fs33, e32', o33 343 33 (by omega)]
                · rw [e36]; show (tt : Int) + 1 = ((tt + 1 : Nat) : Int); omega
                · have mt33 : mT h33 t = mT h27 t := mT_eq (o33 _ _ (by omega)) (fun a f => o33 _ _ (by omega))
                  have lt : lS (lTick (lSetE s tt)) = lS (lSetE s tt) + 1 := by
                    rcases lTick_cases (lSetE s tt) with ⟨q1, q2⟩ | ⟨q1, q2, q3⟩
                    · have w' : lB (lTick (lSetE s tt)) = 0 := w
                      rw [q2] at w'
                      exact absurd w' (by show ¬ (3 : Int) = 0; omega)
                    · exact q2
                  obtain ⟨r1, r2, r3, r4, r5, r6⟩ := rl27
                  refine ⟨?_, e32'.symm, ?_, ?_, fun j hj => ⟨?_, ?_⟩, fun j hj pl => ?_⟩
                  · show lF (lTick (lSetE s tt)) = _
                    rw [v1, fs33]; exact r1
                  · show lP (lTick (lSetE s tt)) = _
                    rw [v2, o33 _ _ (by omega)]; exact r3
                  · show lS (lTick (lSetE s tt)) = _
                    rw [lt, f34, r4]
                  · show lG (lTick (lSetE s tt)) j = _
                    rw [v3, o33 _ _ (by omega)]; exact (r5 j hj).1
                  · show lE (lTick (lSetE s tt)) j = _
                    rw [v4, o33 _ _ (by omega)]; exact (r5 j hj).2
                  · show lW (lTick (lSetE s tt)) j = _
                    rw [mt33] at pl
                    rw [v5, (F33.1 362 j (by rintro ⟨w, _⟩; omega)).2]
                    exact r6 j hj pl
                · rw [o33 _ _ (by omega), w41]
                  show (K.length : Int) + 1 = ((K.length + 1 : Nat) : Int)
                  omega
                · show mKs h33 (K.length + 1) = _
                  rw [mKs_push (h := h27) (dp := K.length) (i := tt) (c := c) (u := u + 1) (by rw [o33 _ _ (by omega), low 365 _ (Or.inl rfl), tp0]) (by rw [o33 _ _ (by omega), w366]) (by rw [o33 _ _ (by omega), w367]) (fun j hj => ⟨o33 _ _ (by omega), o33 _ _ (by omega), o33 _ _ (by omega)⟩), ks27]
                · have hx2 : x < K.length + 1 := hx
                  rw [o33 _ _ (by omega), low 365 x (Or.inl rfl)]
                  exact sim.2.2.2 x hx2
  refine vc_X11_laysOut_0 o h hS hd (fun y1 y2 y3 y4 g => y1 = (o : Int) ∧ y2 = (t : Int) ∧ y3 = off ∧ y4 = 0 ∧ zSh g ∧ zF4 mLf h g ∧ gI g 343 31 = 0 ∧ gI g 343 32 = 0 ∧ gI g 343 34 = 0 ∧ gI g 343 41 = 0 ∧ gI g 343 33 = off) ?_ (sp_templateOf hS ho (qI_i ⟨hS, sp_offsetOf hS ho (qI_i ⟨hS, fun h9 e9 h11 e11 h13 e13 h15 e15 h17 e17 s17 => ⟨rfl, et, eo, rfl, s17, ?_, ?_, ?_, ?_, ?_, ?_⟩⟩)⟩))
  · rintro _ _ _ _ g ⟨q0, q1, q2, q3, sg, F, e31, e32, e34, e41, e33⟩
    rw [q0, q1, q2, q3]
    have fs : mFs g = [] := by unfold mFs; rw [e31]; rfl
    refine loop 2006 (0, ([], lStart off)) g 0 (lIt_ends 2006 _ (by show (0 : Int) ≤ 0; omega) (by show (0 : Int) ≤ 400; omega) (by show 5 * (401 - (0 : Int).toNat) + 0 < 2006; omega)) rfl sg F ⟨?_, by omega⟩ (cInv_start ok o0 o1) (fun _ => ⟨rfl, ⟨?_, ?_, ?_, ?_, fun j hj => absurd hj.1 (by show ¬ j < 0; omega), fun j hj => absurd hj.1 (by show ¬ j < 0; omega)⟩, e41, rfl, fun x hx => absurd hx (by show ¬ x < 0; omega)⟩)
    · show ([], ((0 : Int), off)) = _
      rw [fs, e32, e33]
    · show [] = _
      rw [fs]
    · show (0 : Int) = _
      rw [e32]
    · show off = _
      rw [e33]
    · show (0 : Int) = _
      rw [e34]
  · rw [e17, e15, e13, e11, e9]
    exact (zF4.sI (Or.inl ⟨rfl, by omega, by omega⟩)).tr ((zF4.sI (Or.inl ⟨rfl, by omega, by omega⟩)).tr ((zF4.sI (Or.inl ⟨rfl, by omega, by omega⟩)).tr ((zF4.sI (Or.inl ⟨rfl, by omega, by omega⟩)).tr (zF4.sI (Or.inl ⟨rfl, by omega, by omega⟩)))))
  · rw [e17, e15, e13, e11, e9]; simp [gI_sI]
  · rw [e17, e15, e13, e11, e9]; simp [gI_sI]
  · rw [e17, e15, e13, e11, e9]; simp [gI_sI]
  · rw [e17, e15, e13, e11, e9]; simp [gI_sI]
  · rw [e17, e15, e13, e11, e9]; simp [gI_sI, eo]
end MOUT
