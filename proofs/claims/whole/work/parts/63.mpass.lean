def mPB (G : zG) (d : Nat) (Q : Option zV → zHp → Prop) (p1 p2 p3 : Int) (h11 : zHp) : Prop := (wpN G (d - 1) M_X11_of 0 (zar 0 [vR 343, vI p1, vI p2, vI 9]) [] h11 (qI (fun z15 h16 => zSh h16 ∧ (wpN G (d - 1) M_X11_of 0 (zar 0 [vR 343, vI p1, vI p2, vI 0]) [] h16 (qI (fun z19 h20 => zSh h20 ∧ ((z19 < 1 ∨ 4 < z19 → (wpN G (d - 1) M_X11_laysAll 0 (zar 0 [vR 343, vI p1, vI p2]) [] h20 (qV (fun h25 => zSh h25 ∧ (((0 : Int) ≤ p2 ∧ p2 < ((24 : Nat) : Int)) ∧ (∀ h28 : zHp, h28 = sI h25 364 p2.toNat (gI h25 343 33) → Q (some (vI z15)) h28)))))) ∧ (z19 = 1 + ((0 : Nat) : Int) → (∀ x30 : Int, x30 = (gI h20 343 41) → (wpN G (d - 1) M_X11_enters 0 (zar 0 [vR 343, vI p1, vI p2]) [] h20 (qV (fun h33 => zSh h33 ∧ (((gI h33 343 41) ≤ x30 → (((0 : Int) ≤ p2 ∧ p2 < ((24 : Nat) : Int)) ∧ (∀ h37 : zHp, h37 = sI h33 364 p2.toNat (gI h33 343 33) → Q (some (vI z15)) h37))) ∧ (x30 < (gI h33 343 41) → ((-2147483648 ≤ p2 + 1 ∧ p2 + 1 ≤ 2147483647) ∧ (∀ x39 : Int, x39 = (p2 + 1) → (((0 : Int) ≤ p2 ∧ p2 < ((24 : Nat) : Int)) ∧ (∀ h41 : zHp, h41 = sI h33 364 p2.toNat (gI h33 343 33) → Q (some (vI x39)) h41))))))))))) ∧ (z19 = 1 + ((1 : Nat) : Int) → (wpN G (d - 1) M_X11_laysAll 0 (zar 0 [vR 343, vI p1, vI p2]) [] h20 (qV (fun h44 => zSh h44 ∧ (((0 : Int) ≤ p2 ∧ p2 < ((24 : Nat) : Int)) ∧ (∀ h47 : zHp, h47 = sI h44 364 p2.toNat (gI h44 343 33) → Q (some (vI z15)) h47)))))) ∧ (z19 = 1 + ((2 : Nat) : Int) → (wpN G (d - 1) M_X11_of 0 (zar 0 [vR 343, vI p1, vI p2, vI 4]) [] h20 (qI (fun z49 h50 => zSh h50 ∧ ((-2147483648 ≤ (gI h20 343 33) + z49 ∧ (gI h20 343 33) + z49 ≤ 2147483647) ∧ (∀ h53 : zHp, h53 = sI h50 343 33 ((gI h20 343 33) + z49) → (((0 : Int) ≤ p2 ∧ p2 < ((24 : Nat) : Int)) ∧ (∀ h55 : zHp, h55 = sI h53 364 p2.toNat (gI h53 343 33) → Q (some (vI z15)) h55)))))))) ∧ (z19 = 1 + ((3 : Nat) : Int) → (wpN G (d - 1) M_X11_of 0 (zar 0 [vR 343, vI p1, vI p2, vI 4]) [] h20 (qI (fun z57 h58 => zSh h58 ∧ (wpN G (d - 1) M_X11_aligns 0 (zar 0 [vR 343, vI p3, vI z57]) [] h58 (qV (fun h62 => zSh h62 ∧ (((0 : Int) ≤ p2 ∧ p2 < ((24 : Nat) : Int)) ∧ (∀ h65 : zHp, h65 = sI h62 364 p2.toNat (gI h62 343 33) → Q (some (vI z15)) h65))))))))))))))))
section MPASS
variable {G : zG} {d : Nat} {Q : Option zV → zHp → Prop} {h : zHp} {T : List (List Int)} {bs : List Int} {off : Int}
theorem sp_pbody {t i : Nat} {K : zLyK} {s1 s : zLyS} (hd : 3 ≤ d) (hS : zSh h) (h8 : mdOk h 344 0) (ht : t < 5) (ok : tOk T) (r : mTr h t T) (eb : bM h = bs) (hi : i < T.length) (ki : kIn T K i) (es : s = lCome i s1) (m : mSim h t K s (fun x => vis T i K x ∨ x = i)) (h31 : 0 ≤ gI h 343 31) (s0 : lB s = 0) (hf : fsOk bs s) (hs : sOk off s) (nab : ¬ (ti T i 6 ≠ -1 ∧ lW s (ti T i 6).toNat ≠ ti T i 7))
    (k : ∀ h' z, zSh h' → zF4 mLf h h' → mRes h' t (fun x => vis T i K x ∨ x = i) (lGo T bs off i K s) z → Q (some (vI z)) h') : mPB G d Q (t : Int) (i : Int) off h := by
  have eT := mT_of ok r
  have l24 := ok.1
  have hl := kIn_len ok hi ki
  obtain ⟨⟨⟨a1, k0, k7⟩, ⟨n1, n2⟩, a2, a3, a4, a5, a6⟩, ⟨_, b2, b3, b4, b5, b6⟩, _⟩ := ok.2.2 i hi
  obtain ⟨m1, m2, m3, m4, m5, m6, m7, m8, m9, m10, m11, m12, m13⟩ := r.2 i hi
  have hB : mBd h K.length := mSim_bd (i := i) (T := T) hl.1 m h31 hf hs
  obtain ⟨sr, st⟩ := mSim_st ok r ki m
  obtain ⟨hmR, hm41, hmK, hmN⟩ := m
  have hiT : (i : Int) < gI h 352 t := by rw [r.1]; omega
  have hco := mcOk_of ok r hi
  have ei : (i : Int).toNat = i := by omega
  have end0 : 0 ≤ ti T i 5 := by have := (ok.2.2 i hi).2.2.2.1.1; omega
  obtain ⟨⟨hs1, hs2⟩, hs3, hs4, hs5⟩ := hs
  have e33 : lP s = gI h 343 33 := hmR.2.2.1
  have e34 : lS s = gI h 343 34 := hmR.2.2.2.1
  have e32 : gI h 343 32 = 0 := by rw [← hmR.2.1]; exact s0
  -- after an item whose end is set, the layout whole
  have fin : ∀ (g g' : zHp) (s' : zLyS), zSh g → zF4 mLf h g → mRl g t s' (fun x => vis T i K x ∨ x = i) → g' = sI g 364 i (gI g 343 33) → (∀ b j, b = 365 ∨ b = 366 ∨ b = 367 ∨ (b = 343 ∧ j = 41) → gI g b j = gI h b j) → 0 ≤ gI g 343 31 → lGo T bs off i K s = ((ti T i 5).toNat, (K, lSetE s' i)) → Q (some (vI (mi h t i 9))) g' := by
    intro g g' s' sg F rl e e4 p31 eg
    obtain ⟨rl', o⟩ := msetE rl e
    have F' : zF4 mLf g g' := by rw [e]; exact zF4.sI (Or.inr ⟨by omega, by omega⟩)
    refine k g' _ (F'.Sh sg) (F.tr F') ⟨?_, fun _ => ?_⟩
    · rw [eg]
      exact ⟨mRl_vis rl', by rw [o _ _ (by omega)]; exact p31⟩
    · rw [eg]
      refine ⟨?_, rl', ?_, ?_, fun x hx => ?_⟩
      · show mi h t i 9 = ((ti T i 5).toNat : Int)
        rw [m12]; omega
      · rw [o _ _ (by omega), e4 _ _ (by simp)]; exact hm41
      · show mKs g' K.length = K
        rw [mKs_eq (h := h) (fun b j q => by rw [o _ _ (by omega), e4 b j (by omega)])]; exact hmK
      · rw [o _ _ (by omega), e4 _ _ (by simp)]; exact hmN x hx
  -- fields
  have lays : ti T i 0 ≤ 4 → wpN G (d - 1) M_X11_laysAll 0 (zar 0 [vR 343, vI (t : Int), vI (i : Int)]) [] h (qV (fun h25 => zSh h25 ∧ (((0 : Int) ≤ (i : Int) ∧ (i : Int) < ((24 : Nat) : Int)) ∧ (∀ h28 : zHp, h28 = sI h25 364 (i : Int).toNat (gI h25 343 33) → Q (some (vI (mi h t i 9))) h28)))) := by
    intro c
    have go : lGo T bs off i K s = ((ti T i 5).toNat, (K, lSetE (lAll T bs K i s) i)) := by
      unfold lGo
      rw [if_neg nab, if_neg (by omega), if_neg (by omega), if_neg (by omega)]
    refine sp_laysAll_rel (s := s) (V := fun x => vis T i K x ∨ x = i) (by omega) hS h8 ht (by omega) hiT hB (miOk_of ok r hi c) hco sr st hmR s0 (fun w => ?_) (fun w => ?_) (fun h25 sh F' vs rl bp em => qV_i ⟨sh, ⟨by omega, by omega⟩, fun h28 e28 => ?_⟩)
    · have c2 : 2 ≤ ti T i 0 := by omega
      obtain ⟨r1, r2, r3, r4, r5⟩ := b5 ⟨c2, c⟩
      obtain ⟨_, _, _, q11, q12⟩ := m3 ⟨c2, c⟩
      rw [q11, q12]
      exact ⟨Or.inl (vis_sib ki (by omega) r4), Or.inl (vis_sib ki (by omega) r5)⟩
    · have hr : tRef T i (ti T i 9) ∧ mi h t i 8 = ti T i 9 := by
        rcases b2 with q | ⟨q1, q2, q | ⟨q, q4⟩⟩
        · have := m9 q.1; omega
        · have := m10 ⟨by omega, q.1⟩; omega
        · have := q.1
          exact ⟨q, (m11 ⟨by omega, by omega⟩).2⟩
      rw [hr.2, eT]
      exact ⟨Or.inl (vis_ref hi ki hr.1), hr.1.2.2.1⟩
    · rw [eT, eb, hmK] at vs rl
      rw [ei] at e28
      have F2 : zF4 mLf h h25 := F'.mono (fun b j q => mLf_of_w q)
      have keep : ∀ b j, b = 365 ∨ b = 366 ∨ b = 367 ∨ (b = 343 ∧ j = 41) → gI h25 b j = gI h b j := fun b j q => F'.I _ _ (by
        rintro (((⟨w, w2⟩ | w) | ⟨w, w2⟩) | w) <;> omega)
      obtain ⟨em1, em2, em3, em4⟩ := em
      by_cases lb : lB (lAll T bs K i s) = 0
      · exact fin h25 h28 _ sh F2 (rl lb) e28 keep (by omega) go
      · have F3 : zF4 mLf h25 h28 := by rw [e28]; exact zF4.sI (Or.inr ⟨by omega, by omega⟩)
        have o : ∀ b j, b ≠ 364 → gI h28 b j = gI h25 b j := fun b j q => by rw [e28, gI_sI, if_neg (fun w => q w.1)]
        refine k h28 _ (F3.Sh sh) (F2.tr F3) ⟨?_, fun w => ?_⟩
        · rw [go]
          refine ⟨?_, by rw [o _ _ (by omega)]; omega⟩
          have v2 : lVis (lSetE (lAll T bs K i s) i) = lVis (lAll T bs K i s) := rfl
          show lVis (lSetE (lAll T bs K i s) i) = _
          rw [v2, vs, o _ _ (by omega), o _ _ (by omega), mFs_I (h' := h28) (h := h25) (o _ _ (by omega)) (fun b j _ _ => o _ _ (by omega))]
        · rw [go] at w
          exact absurd w lb
  unfold mPB
  refine sp_of (f := 9) hS ht (by omega) (by omega) (qI_i ⟨hS, sp_of (f := 0) hS ht (by omega) (by omega) (qI_i ⟨hS, fun c => lays (by omega), fun c x30 e30 => ?_, fun c => lays (by omega), fun c => ?_, fun c => ?_⟩)⟩)
  · -- a structure
    have q5 : ti T i 0 = 5 := by omega
    have ec : tCnt T (lW s) i = mCnt h t i := by
      rw [← eT]
      refine tCnt_m hiT hco (by omega) (fun w => ?_)
      have hr : tRef T i (ti T i 9) ∧ mi h t i 8 = ti T i 9 := by
        rcases b2 with q | ⟨q1, q2, q | ⟨q, q4⟩⟩
        · have := m9 q.1; omega
        · have := m10 ⟨by omega, q.1⟩; omega
        · have := q.1
          exact ⟨q, (m11 ⟨by omega, by omega⟩).2⟩
      rw [hr.2]
      exact hmR.2.2.2.2.2 _ (Or.inl (vis_ref hi ki hr.1)) (by rw [eT]; exact hr.1.2.2.1)
    have cr := mCnt_rng hco
    refine sp_enters (dp := K.length) (by omega) hS ht (by omega) hco hm41 (by omega) (by omega) (by omega) (fun z => qV_i ⟨hS, fun c1 => ⟨⟨by omega, by omega⟩, fun h37 e37 => ?_⟩, fun c1 => by omega⟩) (fun z h33 s33 F33 f34 f32 f41 f365 f366 f367 => qV_i ⟨s33, fun c1 => by omega, fun c1 => ⟨by omega, fun x39 e39 => ⟨⟨by omega, by omega⟩, fun h41 e41 => ?_⟩⟩⟩)
    · rw [ei] at e37
      refine fin h h37 s hS zF4.rf hmR e37 (fun _ _ _ => rfl) h31 ?_
      unfold lGo
      rw [if_neg nab, if_pos q5, if_pos (by omega), es, lSetE_come]
    · have go : lGo T bs off i K s = (i + 1, ((i, (mCnt h t i, 0)) :: K, lTick s)) := by
        unfold lGo
        rw [if_neg nab, if_pos q5, if_neg (by omega), ec]
      rw [ei] at e41
      have F2 : zF4 mLf h h33 := F33.mono (fun b j q => mLf_of_e q)
      have F3 : zF4 mLf h33 h41 := by rw [e41]; exact zF4.sI (Or.inr ⟨by omega, by omega⟩)
      have n33 : ∀ b j, b ≠ 365 → b ≠ 366 → b ≠ 367 → ¬ (b = 343 ∧ (j = 32 ∨ j = 34 ∨ j = 41)) → gI h33 b j = gI h b j := fun b j q1 q2 q3 q4 => F33.I _ _ (by
        rintro (⟨w, w2⟩ | w | w | w)
        · exact q4 ⟨w, w2⟩
        · exact q1 w
        · exact q2 w
        · exact q3 w)
      have o : ∀ b j, b ≠ 364 → gI h41 b j = gI h33 b j := fun b j q => by rw [e41, gI_sI, if_neg (fun w => q w.1)]
      have o364 : ∀ j, gI h41 364 j = gI h 364 j := fun j => by
        rw [e41, gI_sI]
        by_cases w : j = i
        · rw [if_pos ⟨rfl, w⟩, n33 343 33 (by omega) (by omega) (by omega) (by omega), w, ← e33]
          have q := (hmR.2.2.2.2.1 i (Or.inr rfl)).2
          rw [← q, es]
          show lP s1 = upF (lE s1) i (lP s1) i
          unfold upF
          rw [if_pos rfl]
        · rw [if_neg (fun q => w q.2), n33 _ _ (by omega) (by omega) (by omega) (by omega)]
      obtain ⟨v1, v2, v3, v4, v5⟩ := lTick_vis s
      have fs : mFs h41 = mFs h := mFs_I (by rw [o _ _ (by omega), n33 _ _ (by omega) (by omega) (by omega) (by omega)]) (fun b j b1 b2 => by rw [o _ _ (by omega), n33 _ _ (by omega) (by omega) (by omega) (by omega)])
      have e31' : gI h41 343 31 = gI h 343 31 := by rw [o _ _ (by omega), n33 _ _ (by omega) (by omega) (by omega) (by omega)]
      have e33' : gI h41 343 33 = gI h 343 33 := by rw [o _ _ (by omega), n33 _ _ (by omega) (by omega) (by omega) (by omega)]
      have e32' : gI h41 343 32 = lB (lTick s) := by
        rw [o _ _ (by omega), f32, e32, ← e34]
        rcases lTick_cases s with ⟨q1, q2⟩ | ⟨q1, q2, q3⟩
        · rw [if_pos (by omega), q2]; rfl
        · rw [if_neg (by omega), q3, s0]
      have mt : mT h41 t = mT h t := mT_eq (by rw [o _ _ (by omega), n33 _ _ (by omega) (by omega) (by omega) (by omega)]) (fun a f => by unfold mi; rw [o _ _ (by omega), n33 _ _ (by omega) (by omega) (by omega) (by omega)])
      refine k h41 _ (F3.Sh s33) (F2.tr F3) ⟨?_, fun w => ?_⟩
      · rw [go]
        refine ⟨?_, by rw [e31']; exact h31⟩
        show (lF (lTick s), (lB (lTick s), lP (lTick s))) = _
        rw [v1, v2, hmR.1, fs, e32', e33', e33]
      · rw [go] at w ⊢
        have lt : lS s < 400 ∧ lS (lTick s) = lS s + 1 := by
          rcases lTick_cases s with ⟨q1, q2⟩ | ⟨q1, q2, q3⟩
          · have w' : lB (lTick s) = 0 := w
            rw [q2] at w'
            exact absurd w' (by show ¬ (3 : Int) = 0; omega)
          · exact ⟨q1, q2⟩
        refine ⟨by rw [e39]; show (i : Int) + 1 = ((i + 1 : Nat) : Int); omega, ⟨?_, ?_, ?_, ?_, fun j hj => ⟨?_, ?_⟩, fun j hj pl => ?_⟩, ?_, ?_, fun x hx => ?_⟩
        · show lF (lTick s) = _
          rw [v1, hmR.1, fs]
        · exact e32'.symm
        · show lP (lTick s) = _
          rw [v2, e33, e33']
        · show lS (lTick s) = _
          rw [lt.2, o _ _ (by omega), f34, e34]
        · show lG (lTick s) j = _
          rw [v3, o _ _ (by omega), n33 _ _ (by omega) (by omega) (by omega) (by omega)]
          exact (hmR.2.2.2.2.1 j hj).1
        · show lE (lTick s) j = _
          rw [v4, o364]
          exact (hmR.2.2.2.2.1 j hj).2
        · show lW (lTick s) j = _
          rw [mt] at pl
          have : gL h41 362 j = gL h 362 j := by
            rw [e41]
            exact (F33.1 362 j (by rintro (⟨w, w2⟩ | w | w | w) <;> omega)).2
          rw [v5, this]
          exact hmR.2.2.2.2.2 j hj pl
        · rw [o _ _ (by omega), f41]
          show (K.length : Int) + 1 = ((K.length + 1 : Nat) : Int)
          omega
        · show mKs h41 (K.length + 1) = _
          rw [mKs_push (h := h) (dp := K.length) (i := i) (c := mCnt h t i) (u := 0) (by rw [o _ _ (by omega), f365, if_pos rfl]) (by rw [o _ _ (by omega), f366, if_pos rfl]) (by rw [o _ _ (by omega), f367, if_pos rfl]) (fun j hj => ⟨by rw [o _ _ (by omega), f365, if_neg (by omega)], by rw [o _ _ (by omega), f366, if_neg (by omega)], by rw [o _ _ (by omega), f367, if_neg (by omega)]⟩), hmK]
        · have hx2 : x < K.length + 1 := hx
          rw [o _ _ (by omega), f365]
          split
          · omega
          · exact hmN x (by omega)
  · -- a gap
    have q6 : ti T i 0 = 6 := by omega
    have w10 := b3 (by omega)
    obtain ⟨_, w4⟩ := m4 q6
    refine sp_of (f := 4) hS ht (by omega) (by omega) (qI_i ⟨hS, ⟨by omega, by omega⟩, fun h53 e53 => ⟨⟨by omega, by omega⟩, fun h55 e55 => ?_⟩⟩)
    rw [ei] at e55
    have F53 : zF4 mPos h h53 := by rw [e53]; exact zF4.sI ⟨rfl, rfl⟩
    have rl := msetP hmR F53
    have ep : gI h53 343 33 = lP s + ti T i 10 := by rw [e53, gI_sI, if_pos ⟨rfl, rfl⟩, w4, e33]
    rw [ep] at rl
    refine fin h53 h55 (lSetP s (lP s + ti T i 10)) (F53.Sh hS) (F53.mono (fun b j q => Or.inl ⟨q.1, by have := q.2; omega, by have := q.2; omega⟩)) rl e55 (fun b j q => F53.I _ _ (by rintro ⟨w, w2⟩; omega)) (by rw [F53.I _ _ (by rintro ⟨w, w2⟩; omega)]; exact h31) ?_
    unfold lGo
    rw [if_neg nab, if_neg (by omega), if_pos q6]
  · -- an alignment
    have q7 : ti T i 0 = 7 := by omega
    have w10 := b3 (by omega)
    have w11 := b4 q7
    obtain ⟨_, w4⟩ := m5 q7
    refine sp_of (f := 4) hS ht (by omega) (by omega) (qI_i ⟨hS, sp_aligns hS (by omega) (by omega) hs3 (by omega) (by omega) (fun h62 s62 F62 e62 => qV_i ⟨s62, ⟨by omega, by omega⟩, fun h65 e65 => ?_⟩)⟩)
    rw [ei] at e65
    have rl := msetP hmR F62
    rw [w4, ← e33] at e62
    rw [e62] at rl
    refine fin h62 h65 (lSetP s (alP (lP s) off (ti T i 10))) s62 (F62.mono (fun b j q => Or.inl ⟨q.1, by have := q.2; omega, by have := q.2; omega⟩)) rl e65 (fun b j q => F62.I _ _ (by rintro ⟨w, w2⟩; omega)) (by rw [F62.I _ _ (by rintro ⟨w, w2⟩; omega)]; exact h31) ?_
    unfold lGo
    rw [if_neg nab, if_neg (by omega), if_neg (by omega), if_pos q7]
end MPASS
