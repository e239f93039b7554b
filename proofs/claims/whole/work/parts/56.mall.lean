theorem mFs_get {h : zHp} {j : Nat} (hj : (j : Int) < gI h 343 31) : (mFs h)[j]? = some (mFl h j) := by
  rw [mFs, List.getElem?_map, List.getElem?_range (by omega)]
  rfl
theorem lOne_ok {T : List (List Int)} {bs : List Int} {K : zLyK} {i : Nat} {r : Int} {s : zLyS} (h : lB (lOne T bs K i r s) = 0) : lF (lOne T bs K i r s) = lF s ++ [lFd T K i r s] ∧ lP (lOne T bs K i r s) = lP s + ti T i 2 ∧ lP s + ti T i 2 ≤ bs.length := by
  unfold lOne at h ⊢
  split
  · rename_i q
    rw [if_pos q] at h
    exact absurd h (by show ¬ (2 : Int) = 0; omega)
  · rename_i q
    rw [if_neg q] at h
    split
    · rename_i q2
      rw [if_pos q2] at h
      exact absurd h (by show ¬ (1 : Int) = 0; omega)
    · exact ⟨rfl, rfl, by omega⟩
/-- what a laid field is -/
theorem mFs_last {g h' : zHp} {n : Nat} {fd : List Int × List Int} (e : gI g 343 31 = (n : Int)) (e' : gI h' 343 31 = (n : Int) + 1) (ef : mFs h' = mFs g ++ [fd]) : (∀ j, j < n → mFl h' j = mFl g j) ∧ mFl h' n = fd := by
  have l : (mFs g).length = n := by rw [mFs_len, e]; omega
  refine ⟨fun j hj => ?_, ?_⟩
  · have q := mFs_get (h := h') (j := j) (by omega)
    rw [ef, List.getElem?_append_left (by omega), mFs_get (by omega)] at q
    exact (Option.some.inj q).symm
  · have q := mFs_get (h := h') (j := n) (by omega)
    rw [ef, List.getElem?_append_right (by omega), show n - (mFs g).length = 0 by omega] at q
    exact (Option.some.inj q).symm
theorem mFl_c {h : zHp} {j : Nat} {x0 x1 x2 x3 x4 x5 x6 : Int} {p : List Int} (e : mFl h j = ([x0, x1, x2, x3, x4, x5, x6], p)) : gI h 354 j = x0 ∧ gI h 355 j = x1 ∧ gI h 356 j = x2 ∧ gI h 357 j = x3 ∧ gI h 358 j = x4 ∧ gI h 359 j = x5 ∧ gI h 360 j = x6 := by
  have e1 := congrArg Prod.fst e
  simp only [mFl, List.cons.injEq] at e1
  exact ⟨e1.1, e1.2.1, e1.2.2.1, e1.2.2.2.1, e1.2.2.2.2.1, e1.2.2.2.2.2.1, e1.2.2.2.2.2.2.1⟩
section MALL
variable {G : zG} {d : Nat} {Q : Option zV → zHp → Prop} {h : zHp}
theorem sp_laysAll {t i n dp : Nat} {s : zLyS} (hd : 2 ≤ d) (hS : zSh h) (h8 : mdOk h 344 0) (ht : t < 5) (hi : i < 24) (hiT : (i : Int) < gI h 352 t) (e31 : gI h 343 31 = (n : Int)) (hn : n ≤ 60) (e41 : gI h 343 41 = (dp : Int)) (hdp : dp < 4) (p0 : 0 ≤ gI h 343 33) (p1 : gI h 343 33 ≤ 1000000) (hio : miOk h t i) (hco : mcOk h t i) (hsr : mSrO h t dp) (hst : mStO h t dp) (hLv : ∀ j : Nat, j < n → gI h 360 j ≤ 4)
    (s1 : lF s = mFs h) (s0 : lB s = 0) (s2 : gI h 343 32 = 0) (s3 : lP s = gI h 343 33) (sG : mi h t i 0 = 2 → lG s (mi h t i 11).toNat = gI h 363 (mi h t i 11).toNat) (sE : mi h t i 0 = 2 → lE s (mi h t i 12).toNat = gI h 364 (mi h t i 12).toNat) (sW : mi h t i 7 = 2 → lW s (mi h t i 8).toNat = gL h 362 (mi h t i 8).toNat)
    (k : ∀ h', zSh h' → zF4 mLw h h' → lF (lAll (mT h t) (bM h) (mKs h dp) i s) = mFs h' → lB (lAll (mT h t) (bM h) (mKs h dp) i s) = gI h' 343 32 → lP (lAll (mT h t) (bM h) (mKs h dp) i s) = gI h' 343 33 → (0 ≤ gI h' 343 33 ∧ gI h' 343 33 ≤ 1000000) → (∀ j, j ≠ i → gL h' 362 j = gL h 362 j) → (lB (lAll (mT h t) (bM h) (mKs h dp) i s) = 0 → tPl (mT h t) i → lW (lAll (mT h t) (bM h) (mKs h dp) i s) i = gL h' 362 i) → (∃ m : Nat, gI h' 343 31 = (m : Int) ∧ m ≤ 60 ∧ ∀ j : Nat, j < m → gI h' 360 j ≤ 4) → Q none h') :
    wpN G d M_X11_laysAll 0 (zar 0 [vR 343, vI (t : Int), vI (i : Int)]) [] h Q := by
  have hk : mi h t i 0 = 0 ∨ mi h t i 0 = 2 := by rcases hio.2.2 with q | q; exact Or.inl q.1; exact Or.inr q.1
  have ec : tCnt (mT h t) (lW s) i = mCnt h t i := tCnt_m hiT hco (by omega) sW
  have cr := mCnt_rng hco
  have hl := bM_len h8
  have c2 : gI h 344 200 ≤ 200 := h8.1.2
  have t2 : ti (mT h t) i 2 = mi h t i 4 := by rw [ti_mT hiT, mRow_2, if_pos hk]
  have sz4 : 1 ≤ mi h t i 4 ∧ mi h t i 4 ≤ 4 := by rcases hio.1 with e | e | e <;> omega
  have upw : ∀ b j, mLb b j → mLw b j := fun b j q => Or.inl q
  have t8 : ti (mT h t) i 8 = if mi h t i 7 = 0 then 0 else 1 := by rw [ti_mT hiT, mRow_8]
  have loop : ∀ (m r nn : Nat) (g : zHp) (s' : zLyS), (r : Int) + m = mCnt h t i → zSh g → zF4 mLb h g → gI g 343 31 = (nn : Int) → nn ≤ 60 → lF s' = mFs g → lB s' = 0 → gI g 343 32 = 0 → lP s' = gI g 343 33 → (0 ≤ gI g 343 33 ∧ gI g 343 33 ≤ 1000000) → lG s' = lG s → lE s' = lE s → (∀ j : Nat, j < nn → gI g 360 j ≤ 4) → (1 ≤ r → ∃ q : Nat, nn = q + 1 ∧ mIn g q ∧ (gI g 357 q = 0 ∨ gI g 357 q = 1)) → (∀ j, gL g 362 j = gL h 362 j) → lRep (mT h t) (bM h) (mKs h dp) i m (r : Int) s' = lRep (mT h t) (bM h) (mKs h dp) i (mCnt h t i).toNat 0 s → wpN G d M_X11_laysAll 24 [(0, vR 343), (1, vI (t : Int)), (2, vI (i : Int)), (3, vI (mCnt h t i)), (4, vI (r : Int))] [] g Q := by
    intro m
    induction m with
    | zero =>
      intro r nn g s' hr sg F f31 hnn x1 x0 x2 x3 x4 xG xE xL xK xW e
      obtain ⟨k1, k2, k3, k4, k5⟩ := mkeep F
      rw [lRep] at e
      have ea : lAll (mT h t) (bM h) (mKs h dp) i s = if lB s' = 0 ∧ (ti (mT h t) i 0 = 0 ∨ ti (mT h t) i 0 = 1) ∧ ti (mT h t) i 8 = 0 then lSetW s' i (fdV (bM h) ((lF s').getLastD ([], []))) else s' := by
        unfold lAll
        rw [ec, ← e]
      refine vc_X11_laysAll_24 t i _ r g sg hd (fun _ _ _ _ _ => False) (fun _ _ _ _ _ q => q.elim) ⟨fun c => ⟨fun c1 => ?_, fun c1 => sp_of (f := 7) sg ht hi (by omega) (qI_i ⟨sg, fun c2 => ?_, fun c2 => ?_⟩)⟩, fun c => by omega⟩
      · have n8 : ¬ ti (mT h t) i 8 = 0 := by
          rw [t8]
          have : mi h t i 7 ≠ 0 := fun w => c1 (by unfold mCnt; rw [if_pos w])
          rw [if_neg this]; omega
        rw [if_neg (fun w => n8 w.2.2)] at ea
        rw [ea] at k
        exact k g sg (F.mono upw) x1 (by rw [x0, x2]) x3 x4 (fun j _ => xW j) (fun _ w => absurd w.2 n8) ⟨nn, f31, hnn, xL⟩
      · rw [k1] at c2
        have n8 : ¬ ti (mT h t) i 8 = 0 := by rw [t8, if_neg c2]; omega
        rw [if_neg (fun w => n8 w.2.2)] at ea
        rw [ea] at k
        exact k g sg (F.mono upw) x1 (by rw [x0, x2]) x3 x4 (fun j _ => xW j) (fun _ w => absurd w.2 n8) ⟨nn, f31, hnn, xL⟩
      · rw [k1] at c2
        obtain ⟨q, eq, mq, lq⟩ := xK (by omega)
        have g8 : mdOk g 344 0 := mdOk_cp h8 (fun j _ => k5 _)
        refine ⟨by omega, ?_⟩
        rw [f31, show (nn : Int) - 1 = ((q : Nat) : Int) by omega]
        refine sp_valueOf (by omega) sg g8 (by omega) mq lq (fun v ev => qL_i ⟨sg, by omega, fun h12 e12 => ?_⟩)
        rw [show (i : Int).toNat = i by omega] at e12
        have F12 : zF4 mLw h h12 := by rw [e12]; exact (F.mono upw).tr (zF4.sL (Or.inr rfl))
        have i12 : ∀ b j, gI h12 b j = gI g b j := fun b j => by rw [e12]; rfl
        have w12 : ∀ j, gL h12 362 j = if j = i then v else gL h 362 j := fun j => by
          rw [e12, gL_sL]
          by_cases w : j = i
          · rw [if_pos ⟨rfl, w⟩, if_pos w]
          · rw [if_neg (fun z => w z.2), if_neg w, xW]
        have fs12 : mFs h12 = mFs g := by
          unfold mFs mFl
          simp only [i12]
        have vis : lF (lAll (mT h t) (bM h) (mKs h dp) i s) = lF s' ∧ lB (lAll (mT h t) (bM h) (mKs h dp) i s) = lB s' ∧ lP (lAll (mT h t) (bM h) (mKs h dp) i s) = lP s' := by
          rw [ea]
          split
          · exact ⟨rfl, rfl, rfl⟩
          · exact ⟨rfl, rfl, rfl⟩
        refine k h12 (F12.Sh hS) F12 (by rw [vis.1, fs12, x1]) (by rw [vis.2.1, i12, x0, x2]) (by rw [vis.2.2, i12, x3]) (by rw [i12]; exact x4) (fun j hj => by rw [w12, if_neg hj]) (fun _ pl => ?_) ⟨nn, by rw [i12, f31], hnn, fun j hj => by rw [i12]; exact xL j hj⟩
        rw [w12, if_pos rfl, ea, if_pos ⟨x0, pl⟩]
        show upF (lW s') i _ i = v
        unfold upF
        rw [if_pos rfl, ev]
        have lst : (lF s').getLastD ([], []) = mFl g q := by
          rw [x1]
          unfold mFs
          rw [f31, eq, show ((q + 1 : Nat) : Int).toNat = q + 1 by omega, List.range_succ, List.map_append]
          simp
        rw [lst]
        show fVal (tg (bM h)) (gI g 354 q) (gI g 355 q) (gI g 356 q) (gI g 357 q) = mV g q
        unfold mV
        obtain ⟨y1, y2, y3⟩ := mq
        refine fVal_congr y2 (by rcases y1 with w | w | w <;> omega) (fun j hj hj2 => ?_)
        rw [k5] at y3
        rw [bM_tgn (by omega), k5]
    | succ m ih =>
      intro r nn g s' hr sg F f31 hnn x1 x0 x2 x3 x4 xG xE xL xK xW e
      obtain ⟨k1, k2, k3, k4, k5⟩ := mkeep F
      have g8 : mdOk g 344 0 := mdOk_cp h8 (fun j _ => k5 _)
      have ebm : bM g = bM h := bM_F4 F mLb_344 h8
      rw [lRep, if_pos x0] at e
      have f41 : gI g 343 41 = (dp : Int) := by rw [F.I _ _ (mLb_343 (by omega) (by omega) (by omega)), e41]
      have io : miOk g t i := by unfold miOk; simp only [k1]; exact hio
      have sro : mSrO g t dp := fun x hx => by rw [k4 365 x (Or.inr (by omega)), k4 367 x (Or.inr (by omega)), k1]; exact hsr x hx
      have sto : mStO g t dp := fun x hx => by rw [k4 365 x (Or.inr (by omega)), k4 352 t (Or.inl rfl), k1]; exact hst x hx
      refine vc_X11_laysAll_24 t i _ r g sg hd (fun y1 y2 y3 y4 g' => y1 = (t : Int) ∧ y2 = (i : Int) ∧ y3 = mCnt h t i ∧ y4 = ((r + 1 : Nat) : Int) ∧ wpN G d M_X11_laysAll 24 [(0, vR 343), (1, vI (t : Int)), (2, vI (i : Int)), (3, vI (mCnt h t i)), (4, vI ((r + 1 : Nat) : Int))] [] g' Q) ?_ ⟨fun c => by omega, fun c => sp_lOne (s := s') (by omega) sg g8 ht hi (by rw [k4 352 t (Or.inl rfl)]; exact hiT) f31 hnn f41 hdp x4.1 x4.2 (mlOk_of io sro (by omega) (by omega)) sto (by rw [k1]; exact hk) xL x1 x0 x2 x3 (fun w => ?_) (fun w => ?_) (fun h' rr sh' F' e1 e2 e3 cs => qI_i ⟨sh', fun z => ?_, fun z => ?_⟩)⟩
      · rintro _ _ _ _ _ ⟨q0, q1, q2, q3, q4⟩
        rw [q0, q1, q2, q3]
        exact q4
      · rw [k1] at w ⊢
        rw [xG, k4 363 _ (Or.inr (by omega))]
        exact sG w
      · rw [k1] at w ⊢
        rw [xE, k4 364 _ (Or.inr (by omega))]
        exact sE w
      · rw [k2, k3, ebm] at e1 e2 e3 cs
        rcases cs with ⟨_, b0, b31⟩ | ⟨z0, _, _⟩
        · refine ⟨by omega, fun x ex _ => ⟨rfl, rfl, rfl, by omega, ?_⟩⟩
          obtain ⟨o1, o2, o3⟩ := lOne_ok b0
          obtain ⟨w1, w2, w3, w4⟩ := lOne_keep (T := mT h t) (bs := bM h) (K := mKs h dp) (i := i) (r := (r : Int)) (s := s')
          obtain ⟨u1, u2⟩ := mFs_last f31 b31 (by rw [← e1, o1, x1])
          obtain ⟨v0, v1, v2, v3, v4, v5, v6⟩ := mFl_c u2
          have h344 : gI h' 344 200 = gI h 344 200 := by rw [F'.I _ _ (mLb_344 _), k5]
          rw [t2] at o2 o3
          have kl := mKs_len (h := h) (dp := dp)
          have nn60 : nn + 1 ≤ 60 := by
            by_cases w : nn = 60
            · have l : (lF s').length = 60 := by rw [x1, mFs_len, f31]; omega
              unfold lOne at b0
              rw [if_pos l] at b0
              exact absurd b0 (by show ¬ (2 : Int) = 0; omega)
            · omega
          refine ih (r + 1) (nn + 1) h' (lOne (mT h t) (bM h) (mKs h dp) i (r : Int) s') (by omega) sh' (F.tr F') (by omega) nn60 e1 b0 (by rw [← e2]; exact b0) e3 (by omega) (by rw [w2, xG]) (by rw [w3, xE]) (fun j hj => ?_) (fun _ => ⟨nn, rfl, ⟨?_, ?_, ?_⟩, ?_⟩) (fun j => ?_) ?_
          · by_cases w : j = nn
            · rw [w, v6, kl]; omega
            · have := congrArg Prod.fst (u1 j (by omega))
              simp only [mFl, List.cons.injEq] at this
              rw [this.2.2.2.2.2.2.1]
              exact xL j (by omega)
          · rw [v1, t2]; exact hio.1
          · rw [v0, x3]; exact x4.1
          · rw [v0, v1, t2, h344]; omega
          · rw [v3, ti_mT hiT, mRow_3]
            rcases hio.2.2 with ⟨a1, a2, a3⟩ | ⟨a1, _⟩
            · rw [if_pos a1]; exact a3
            · rw [if_neg (by omega)]; exact Or.inl rfl
          · rw [(F'.1 362 j (mLb_out (by omega) (by omega) j)).2, xW]
          · rw [← e]
            rfl
        · exact absurd z0 z
      · rw [k2, k3, ebm] at e1 e2 e3 cs
        rcases cs with ⟨z1, _⟩ | ⟨_, b0, b31, bO⟩
        · omega
        · rw [lRep_broken b0] at e
          have ea : lAll (mT h t) (bM h) (mKs h dp) i s = lOne (mT h t) (bM h) (mKs h dp) i (r : Int) s' := by
            unfold lAll
            rw [ec, ← e, if_neg (fun w => b0 w.1)]
          rw [ea] at k
          have lp : lP (lOne (mT h t) (bM h) (mKs h dp) i (r : Int) s') = lP s' := by
            unfold lOne at b0 ⊢
            split
            · rfl
            · split
              · rfl
              · rename_i q1 q2
                rw [if_neg q1, if_neg q2] at b0
                exact absurd x0 b0
          have lf : lF (lOne (mT h t) (bM h) (mKs h dp) i (r : Int) s') = lF s' := by
            unfold lOne at b0 ⊢
            split
            · rfl
            · split
              · rfl
              · rename_i q1 q2
                rw [if_neg q1, if_neg q2] at b0
                exact absurd x0 b0
          refine k h' sh' ((F.tr F').mono upw) e1 e2 e3 (by omega) (fun j _ => by rw [(F'.1 362 j (mLb_out (by omega) (by omega) j)).2, xW]) (fun w => absurd w b0) ⟨nn, ?_, hnn, fun j hj => ?_⟩
          · exact b31
          · rw [bO _ _ (by omega)]; exact xL j hj
  have start : wpN G d M_X11_laysAll 24 [(0, vR 343), (1, vI (t : Int)), (2, vI (i : Int)), (3, vI (mCnt h t i)), (4, vI ((0 : Nat) : Int))] [] h Q :=
    loop (mCnt h t i).toNat 0 n h s (by omega) hS zF4.rf e31 hn s1 s0 s2 s3 ⟨p0, p1⟩ rfl rfl hLv (fun w => absurd w (by omega)) (fun _ => rfl) rfl
  refine vc_X11_laysAll_0 t i h hS hd (fun y1 y2 y3 y4 g => y1 = (t : Int) ∧ y2 = (i : Int) ∧ y3 = mCnt h t i ∧ y4 = ((0 : Nat) : Int) ∧ g = h) ?_ (sp_of (f := 0) hS ht hi (by omega) (qI_i ⟨hS, fun c _ => ⟨rfl, rfl, ?_, rfl, rfl⟩, fun c => sp_countOf (by omega) hS ht hi hco (qI_i ⟨hS, fun _ => ⟨rfl, rfl, rfl, rfl, rfl⟩⟩)⟩))
  · rintro _ _ _ _ _ ⟨q0, q1, q2, q3, q4⟩
    rw [q0, q1, q2, q3, q4]
    exact start
  · rcases hio.2.2 with ⟨a1, _⟩ | ⟨a1, a2, a3, a4, a5⟩
    · exact absurd a1 c
    · unfold mCnt
      rw [if_pos a5]
end MALL
