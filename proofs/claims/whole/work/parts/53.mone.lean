/-! the stack of the model as a value -/
def mKs (h : zHp) (dp : Nat) : zLyK := ((List.range dp).map (fun k => ((gI h 365 k).toNat, (gI h 366 k, gI h 367 k)))).reverse
theorem mKs_len {h : zHp} {dp : Nat} : (mKs h dp).length = dp := by simp [mKs]
theorem mKs_push {h h' : zHp} {dp i : Nat} {c u : Int} (e1 : gI h' 365 dp = (i : Int)) (e2 : gI h' 366 dp = c) (e3 : gI h' 367 dp = u) (hk : ∀ j, j < dp → gI h' 365 j = gI h 365 j ∧ gI h' 366 j = gI h 366 j ∧ gI h' 367 j = gI h 367 j) : mKs h' (dp + 1) = (i, (c, u)) :: mKs h dp := by
  unfold mKs
  rw [List.range_succ, List.map_append, List.reverse_append]
  have e : (List.range dp).map (fun k => ((gI h' 365 k).toNat, (gI h' 366 k, gI h' 367 k))) = (List.range dp).map (fun k => ((gI h 365 k).toNat, (gI h 366 k, gI h 367 k))) := List.map_congr_left (fun j hj => by
    obtain ⟨q1, q2, q3⟩ := hk j (List.mem_range.mp hj)
    rw [q1, q2, q3])
  rw [e]
  show ((gI h' 365 dp).toNat, (gI h' 366 dp, gI h' 367 dp)) :: _ = _
  rw [e1, e2, e3, show (i : Int).toNat = i by omega]
  rfl
theorem mKs_path {h : zHp} {T : List (List Int)} {dp : Nat} : kPath T (mKs h dp) = (List.range dp).map (fun k => 1000 * gI h 367 k + ti T (gI h 365 k).toNat 1) := by
  unfold kPath mKs
  rw [List.reverse_reverse, List.map_map]
  rfl
def mLb : Nat → Nat → Prop := fun b j => mLy b j ∨ (b = 343 ∧ j = 32)
/-- the structures that are open are structures of the template -/
def mStO (h : zHp) (t dp : Nat) : Prop := ∀ k : Nat, k < dp → gI h 365 k < gI h 352 t ∧ mi h t (gI h 365 k).toNat 0 = 1
section MONE
variable {G : zG} {d : Nat} {Q : Option zV → zHp → Prop} {h : zHp}
theorem sp_lOne {t i n dp : Nat} {rep : Int} {s : zLyS} (hd : 1 ≤ d) (hS : zSh h) (h8 : mdOk h 344 0) (ht : t < 5) (hi : i < 24) (hiT : (i : Int) < gI h 352 t) (e31 : gI h 343 31 = (n : Int)) (hn : n ≤ 60) (e41 : gI h 343 41 = (dp : Int)) (hdp : dp < 4) (p0 : 0 ≤ gI h 343 33) (p1 : gI h 343 33 ≤ 1000000) (ho : mlOk h t i dp rep) (hst : mStO h t dp) (hk : mi h t i 0 = 0 ∨ mi h t i 0 = 2) (hLv : ∀ j : Nat, j < n → gI h 360 j ≤ 4)
    (s1 : lF s = mFs h) (s0 : lB s = 0) (s2 : gI h 343 32 = 0) (s3 : lP s = gI h 343 33) (sG : mi h t i 0 = 2 → lG s (mi h t i 11).toNat = gI h 363 (mi h t i 11).toNat) (sE : mi h t i 0 = 2 → lE s (mi h t i 12).toNat = gI h 364 (mi h t i 12).toNat)
    (k : ∀ h' r, zSh h' → zF4 mLb h h' → lF (lOne (mT h t) (bM h) (mKs h dp) i rep s) = mFs h' → lB (lOne (mT h t) (bM h) (mKs h dp) i rep s) = gI h' 343 32 → lP (lOne (mT h t) (bM h) (mKs h dp) i rep s) = gI h' 343 33 → ((r = 1 ∧ lB (lOne (mT h t) (bM h) (mKs h dp) i rep s) = 0 ∧ gI h' 343 31 = (n : Int) + 1) ∨ (r = 0 ∧ lB (lOne (mT h t) (bM h) (mKs h dp) i rep s) ≠ 0 ∧ gI h' 343 31 = (n : Int) ∧ ∀ b j, b ≠ 343 → gI h' b j = gI h b j)) → Q (some (vI r)) h') :
    wpN G d M_X11_lays 0 (zar 0 [vR 343, vI (t : Int), vI (i : Int), vI rep]) [] h Q := by
  have hl := bM_len h8
  have fl : (lF s).length = n := by rw [s1, mFs_len, e31]; omega
  have t2 : ti (mT h t) i 2 = mi h t i 4 := by rw [ti_mT hiT, mRow_2, if_pos hk]
  have up : ∀ b j, mLy b j → mLb b j := fun b j q => Or.inl q
  refine sp_lays hd hS ht hi e31 hn e41 hdp p0 p1 ho (fun c => ?_) (fun c c1 => ?_) (fun c c1 h' s' F' e31' e33' eC eO eN eL => ?_)
  · have e : lOne (mT h t) (bM h) (mKs h dp) i rep s = lSetB s 2 := by unfold lOne; rw [if_pos (by omega)]
    rw [e] at k
    refine k _ 0 hS (zF4.sI (Or.inr ⟨rfl, rfl⟩)) ?_ ?_ ?_ (Or.inr ⟨rfl, by show (2 : Int) ≠ 0; omega, by rw [gI_sI, if_neg (by omega), e31], fun b j w => by rw [gI_sI, if_neg (by omega)]⟩)
    · show lF s = _
      rw [s1]
      unfold mFs
      rw [gI_sI, if_neg (by omega)]
      rfl
    · show (2 : Int) = _
      rw [gI_sI, if_pos ⟨rfl, rfl⟩]
    · show lP s = _
      rw [gI_sI, if_neg (by omega), s3]
  · have e : lOne (mT h t) (bM h) (mKs h dp) i rep s = lSetB s 1 := by unfold lOne; rw [if_neg (by omega), if_pos (by rw [t2, s3, hl]; omega)]
    rw [e] at k
    refine k _ 0 hS (zF4.sI (Or.inr ⟨rfl, rfl⟩)) ?_ ?_ ?_ (Or.inr ⟨rfl, by show (1 : Int) ≠ 0; omega, by rw [gI_sI, if_neg (by omega), e31], fun b j w => by rw [gI_sI, if_neg (by omega)]⟩)
    · show lF s = _
      rw [s1]
      unfold mFs
      rw [gI_sI, if_neg (by omega)]
      rfl
    · show (1 : Int) = _
      rw [gI_sI, if_pos ⟨rfl, rfl⟩]
    · show lP s = _
      rw [gI_sI, if_neg (by omega), s3]
  · have e : lOne (mT h t) (bM h) (mKs h dp) i rep s = lMk (lF s ++ [lFd (mT h t) (mKs h dp) i rep s]) (lB s) (lP s + ti (mT h t) i 2) (lS s) (lW s) (lG s) (lE s) := by unfold lOne; rw [if_neg (by omega), if_neg (by rw [t2, s3, hl]; omega)]
    rw [e] at k
    have e32 : gI h' 343 32 = 0 := by rw [F'.I _ _ (by rintro (⟨_, w⟩ | ⟨w, _⟩) <;> omega), s2]
    refine k h' 1 s' (F'.mono up) ?_ ?_ ?_ (Or.inl ⟨rfl, by rw [lB_mk, s0], e31'⟩)
    · rw [lF_mk, s1]
      refine (mFs_push e31 e31' (fun j hj => ?_) ?_).symm
      · unfold mFl
        have q : ∀ c, 354 ≤ c → c ≤ 360 → gI h' c j = gI h c j := fun c b1 b2 => by rw [eC c j b1 b2, if_neg (by omega)]
        rw [q 354 (by omega) (by omega), q 355 (by omega) (by omega), q 356 (by omega) (by omega), q 357 (by omega) (by omega), q 358 (by omega) (by omega), q 359 (by omega) (by omega), q 360 (by omega) (by omega)]
        congr 1
        refine List.map_congr_left (fun x hx => ?_)
        have hx2 := List.mem_range.mp hx
        have := hLv j hj
        exact eO _ (by omega)
      · have q : ∀ c, 354 ≤ c → c ≤ 360 → gI h' c n = mNew h t i dp c := fun c b1 b2 => by rw [eC c n b1 b2, if_pos rfl]
        have m4 : mNew h t i dp 354 = gI h 343 33 := rfl
        have m5 : mNew h t i dp 355 = mi h t i 4 := rfl
        have m10 : mNew h t i dp 360 = (dp : Int) + 1 := rfl
        have a0 : ti (mT h t) i 0 = mNew h t i dp 356 := by
          show _ = if mi h t i 0 = 2 then mi h t i 10 else mi h t i 5
          rw [ti_mT hiT, mRow_0]
          rcases hk with w | w
          · rw [if_pos w, if_neg (by omega)]
          · rw [if_neg (by omega), if_neg (by omega), if_pos w, if_pos w]
        have a3 : ti (mT h t) i 3 = mNew h t i dp 357 := by
          show _ = if mi h t i 0 = 2 then 0 else mi h t i 6
          rw [ti_mT hiT, mRow_3]
          rcases hk with w | w
          · rw [if_pos w, if_neg (by omega)]
          · rw [if_neg (by omega), if_pos w]
        have a11 : (if ti (mT h t) i 11 = -1 then -1009 else lG s (ti (mT h t) i 11).toNat) = mNew h t i dp 358 := by
          show _ = if mi h t i 0 = 2 then gI h 363 (mi h t i 11).toNat else -1009
          rw [ti_mT hiT, mRow_11]
          rcases hk with w | w
          · rw [if_neg (show ¬ mi h t i 0 = 2 by omega), if_pos rfl, if_neg (by omega)]
          · have := ho.2.1 w
            rw [if_pos w, if_neg (by omega), if_pos w, sG w]
        have a12 : (if ti (mT h t) i 12 = -1 then -1009 else lE s (ti (mT h t) i 12).toNat) = mNew h t i dp 359 := by
          show _ = if mi h t i 0 = 2 then gI h 364 (mi h t i 12).toNat else -1009
          rw [ti_mT hiT, mRow_12]
          rcases hk with w | w
          · rw [if_neg (show ¬ mi h t i 0 = 2 by omega), if_pos rfl, if_neg (by omega)]
          · have := ho.2.1 w
            rw [if_pos w, if_neg (by omega), if_pos w, sE w]
        have a1 : ti (mT h t) i 1 = mi h t i 1 := by rw [ti_mT hiT, mRow_1, if_pos (by omega)]
        have pth : (List.range (gI h' 360 n).toNat).map (fun x => gI h' 361 (4 * n + x)) = kPath (mT h t) (mKs h dp) ++ [1000 * rep + ti (mT h t) i 1] := by
          rw [q 360 (by omega) (by omega), m10, show ((dp : Int) + 1).toNat = dp + 1 by omega, List.range_succ, List.map_append, mKs_path, a1]
          congr 1
          · refine List.map_congr_left (fun x hx => ?_)
            have hx2 := List.mem_range.mp hx
            obtain ⟨u1, u2⟩ := hst x hx2
            have u3 := ho.2.2.2.2 x hx2
            rw [eN x hx2, ti_mT (by omega), mRow_1, if_pos (by omega)]
          · show [gI h' 361 (4 * n + dp)] = _
            rw [eL]
        unfold mFl lFd
        rw [pth, q 354 (by omega) (by omega), q 355 (by omega) (by omega), q 356 (by omega) (by omega), q 357 (by omega) (by omega), q 358 (by omega) (by omega), q 359 (by omega) (by omega), q 360 (by omega) (by omega), a0, a3, a11, a12, t2, s3, mKs_len, m4, m5, m10]
    · rw [lB_mk, s0, e32]
    · rw [lP_mk, s3, t2, e33']
end MONE
