/-! an item passed by the model -/
/-- template t of the model holds the value T -/
def mTr1 (h : zHp) (t : Nat) (T : List (List Int)) (i : Nat) : Prop :=
  (ti T i 0 ≤ 1 → mi h t i 0 = 0 ∧ mi h t i 5 = ti T i 0 ∧ mi h t i 4 = ti T i 2 ∧ mi h t i 6 = ti T i 3) ∧
  (ti T i 0 = 5 → mi h t i 0 = 1) ∧
  (2 ≤ ti T i 0 ∧ ti T i 0 ≤ 4 → mi h t i 0 = 2 ∧ mi h t i 10 = ti T i 0 ∧ mi h t i 4 = ti T i 2 ∧ mi h t i 11 = ti T i 11 ∧ mi h t i 12 = ti T i 12) ∧
  (ti T i 0 = 6 → mi h t i 0 = 3 ∧ mi h t i 4 = ti T i 10) ∧ (ti T i 0 = 7 → mi h t i 0 = 4 ∧ mi h t i 4 = ti T i 10) ∧
  (ti T i 0 ≤ 5 → mi h t i 1 = ti T i 1) ∧ mi h t i 2 = ti T i 6 ∧ mi h t i 3 = ti T i 7 ∧
  (ti T i 8 = 0 → mi h t i 7 = 0) ∧ (ti T i 8 ≠ 0 ∧ ti T i 9 = -1 → mi h t i 7 = 1 ∧ mi h t i 8 = ti T i 10) ∧ (ti T i 8 ≠ 0 ∧ ti T i 9 ≠ -1 → mi h t i 7 = 2 ∧ mi h t i 8 = ti T i 9) ∧
  mi h t i 9 = ti T i 5 ∧ mi h t i 13 = ti T i 4
def mTr (h : zHp) (t : Nat) (T : List (List Int)) : Prop := gI h 352 t = (T.length : Int) ∧ ∀ i, i < T.length → mTr1 h t T i
theorem mTr_F {P : Nat → Nat → Prop} {h h' : zHp} {t : Nat} {T : List (List Int)} (F : zF4 P h h') (p1 : ∀ j, ¬ P 351 j) (p2 : ∀ j, ¬ P 352 j) (r : mTr h t T) : mTr h' t T := by
  refine ⟨by rw [F.I _ _ (p2 t)]; exact r.1, fun i hi => ?_⟩
  have e := mi_F F p1 t i
  unfold mTr1
  simp only [e]
  exact r.2 i hi
theorem list13 {l m : List Int} (hl : l.length = 13) (hm : m.length = 13) (e : ∀ k, k < 13 → l.getD k 0 = m.getD k 0) : l = m := by
  refine List.ext_getElem (by omega) (fun k h1 h2 => ?_)
  have q := e k (by omega)
  rw [List.getD_eq_getElem?_getD, List.getD_eq_getElem?_getD, List.getElem?_eq_getElem h1, List.getElem?_eq_getElem h2] at q
  exact q
theorem mT_of {h : zHp} {t : Nat} {T : List (List Int)} (ok : tOk T) (r : mTr h t T) : mT h t = T := by
  have hl : (mT h t).length = T.length := by rw [mT_len, r.1]; omega
  refine List.ext_getElem hl (fun i h1 h2 => ?_)
  have e1 : (mT h t)[i] = mRow h t i := by simp [mT]
  have e2 : T[i] = T.getD i [] := by rw [List.getD_eq_getElem?_getD, List.getElem?_eq_getElem h2]; rfl
  rw [e1, e2]
  obtain ⟨⟨⟨a1, k0, k7⟩, ⟨n1, n2⟩, a2, a3, a4, a5, a6⟩, ⟨_, b2, b3, _, b5, b6⟩, _⟩ := ok.2.2 i h2
  obtain ⟨m1, m2, m3, m4, m5, m6, m7, m8, m9, m10, m11, m12, m13⟩ := r.2 i h2
  have c8 : ti T i 8 = 0 ∨ ti T i 8 = 1 := by rcases b2 with q | q; exact Or.inl q.1; exact Or.inr q.1
  have c9 : ti T i 8 = 0 → ti T i 9 = -1 ∧ (ti T i 0 ≤ 5 → ti T i 10 = 0) := fun w => by rcases b2 with q | q; exact q.2; omega
  have c10 : ti T i 8 = 1 → (ti T i 0 ≤ 1 ∨ ti T i 0 = 5) := fun w => by rcases b2 with q | q; omega; exact q.2.1
  have c11 : ti T i 8 = 1 → ti T i 9 ≠ -1 → ti T i 10 = 0 := fun w w2 => by
    rcases b2 with q | ⟨_, _, q | q⟩
    · omega
    · exact absurd q.1 w2
    · exact q.2
  refine list13 rfl a1 (fun k hk => ?_)
  have goal : ∀ f, (T.getD i []).getD f 0 = ti T i f := fun f => rfl
  rw [goal]
  rcases (show k = 0 ∨ k = 1 ∨ k = 2 ∨ k = 3 ∨ k = 4 ∨ k = 5 ∨ k = 6 ∨ k = 7 ∨ k = 8 ∨ k = 9 ∨ k = 10 ∨ k = 11 ∨ k = 12 by omega) with w | w | w | w | w | w | w | w | w | w | w | w | w <;> rw [w]
  · rw [mRow_0]; repeat' split
    all_goals omega
  · rw [mRow_1]; repeat' split
    all_goals omega
  · rw [mRow_2]; repeat' split
    all_goals omega
  · rw [mRow_3]; repeat' split
    all_goals omega
  · rw [mRow_4]; omega
  · rw [mRow_5]; omega
  · rw [mRow_6]; omega
  · rw [mRow_7]; omega
  · rw [mRow_8]; repeat' split
    all_goals omega
  · rw [mRow_9]; repeat' split
    all_goals omega
  · rw [mRow_10]; repeat' split
    all_goals omega
  · rw [mRow_11]; repeat' split
    all_goals omega
  · rw [mRow_12]; repeat' split
    all_goals omega
theorem mcOk_of {h : zHp} {t i : Nat} {T : List (List Int)} (ok : tOk T) (r : mTr h t T) (hi : i < T.length) : mcOk h t i := by
  obtain ⟨_, ⟨_, b2, _⟩, _⟩ := ok.2.2 i hi
  obtain ⟨m1, m2, m3, m4, m5, m6, m7, m8, m9, m10, m11, m12, m13⟩ := r.2 i hi
  have l24 := ok.1
  rcases b2 with q | ⟨q1, q2, q | ⟨q, q4⟩⟩
  · exact Or.inl (m9 q.1)
  · obtain ⟨w1, w2⟩ := m10 ⟨by omega, q.1⟩
    exact Or.inr (Or.inl ⟨w1, by omega⟩)
  · obtain ⟨r0, r1, _⟩ := q
    obtain ⟨w1, w2⟩ := m11 ⟨by omega, by omega⟩
    exact Or.inr (Or.inr ⟨w1, by omega⟩)
theorem miOk_of {h : zHp} {t i : Nat} {T : List (List Int)} (ok : tOk T) (r : mTr h t T) (hi : i < T.length) (hk : ti T i 0 ≤ 4) : miOk h t i := by
  obtain ⟨⟨⟨a1, k0, k7⟩, ⟨n1, n2⟩, a2, a3, a4, a5, a6⟩, ⟨_, b2, b3, _, b5, b6⟩, _⟩ := ok.2.2 i hi
  obtain ⟨m1, m2, m3, m4, m5, m6, m7, m8, m9, m10, m11, m12, m13⟩ := r.2 i hi
  have l24 := ok.1
  unfold miOk
  unfold fSz at a2 ⊢
  by_cases c : ti T i 0 ≤ 1
  · exact ⟨by omega, by omega, Or.inl (by omega)⟩
  · have c8 : ti T i 8 = 0 := by rcases b2 with q | q; exact q.1; omega
    exact ⟨by omega, by omega, Or.inr (by omega)⟩
def mLf : Nat → Nat → Prop := fun b j => (b = 343 ∧ 31 ≤ j ∧ j ≤ 41) ∨ (354 ≤ b ∧ b ≤ 367)
theorem mLf_351 : ∀ j, ¬ mLf 351 j := by rintro j (⟨w, _⟩ | ⟨w, _⟩) <;> omega
theorem mLf_352 : ∀ j, ¬ mLf 352 j := by rintro j (⟨w, _⟩ | ⟨w, _⟩) <;> omega
theorem mLf_344 : ∀ j, ¬ mLf 344 j := by rintro j (⟨w, _⟩ | ⟨w, _⟩) <;> omega
theorem mLf_of_w {b j : Nat} (h : mLw b j) : mLf b j := by
  rcases h with ((⟨w, w2⟩ | w) | ⟨w, w2⟩) | w
  · exact Or.inl ⟨w, by omega, by omega⟩
  · exact Or.inr ⟨by omega, by omega⟩
  · exact Or.inl ⟨w, by omega, by omega⟩
  · exact Or.inr ⟨by omega, by omega⟩
theorem mLf_of_e {b j : Nat} (h : mEn b j) : mLf b j := by
  rcases h with ⟨w, w2⟩ | w | w | w
  · exact Or.inl ⟨w, by omega, by omega⟩
  · exact Or.inr ⟨by omega, by omega⟩
  · exact Or.inr ⟨by omega, by omega⟩
  · exact Or.inr ⟨by omega, by omega⟩
/-- the model stands where the pure machine stands -/
def mSim (h : zHp) (t : Nat) (K : zLyK) (s : zLyS) (V : Nat → Prop) : Prop := mRl h t s V ∧ gI h 343 41 = (K.length : Int) ∧ mKs h K.length = K ∧ ∀ k : Nat, k < K.length → 0 ≤ gI h 365 k
def mVs (h : zHp) (s : zLyS) : Prop := lVis s = (mFs h, (gI h 343 32, gI h 343 33)) ∧ 0 ≤ gI h 343 31
theorem mKs_mem {h : zHp} {dp k : Nat} {K : zLyK} (e : mKs h dp = K) (hk : k < dp) : ((gI h 365 k).toNat, (gI h 366 k, gI h 367 k)) ∈ K := by
  rw [← e, mKs, List.mem_reverse]
  exact List.mem_map.mpr ⟨k, List.mem_range.mpr hk, rfl⟩
theorem mSim_st {h : zHp} {t i : Nat} {T : List (List Int)} {K : zLyK} {s : zLyS} {V : Nat → Prop} (ok : tOk T) (r : mTr h t T) (ki : kIn T K i) (m : mSim h t K s V) : mSrO h t K.length ∧ mStO h t K.length := by
  obtain ⟨_, _, m3, m4⟩ := m
  have l24 := ok.1
  have key : ∀ k : Nat, k < K.length → ∃ x : Nat, gI h 365 k = (x : Int) ∧ x < T.length ∧ ti T x 0 = 5 ∧ 0 ≤ gI h 367 k ∧ gI h 367 k < gI h 366 k ∧ gI h 366 k ≤ 999 := fun k hk => by
    obtain ⟨_, q2, q3, q4⟩ := kIn_lt K i ki _ (mKs_mem m3 hk)
    have := m4 k hk
    exact ⟨(gI h 365 k).toNat, by omega, q2, q3, q4⟩
  refine ⟨fun k hk => ?_, fun k hk => ?_⟩
  · obtain ⟨x, e, x1, x2, x3, x4, x5⟩ := key k hk
    obtain ⟨⟨_, ⟨n1, _⟩, _⟩, _⟩ := ok.2.2 x x1
    obtain ⟨_, _, _, _, _, m6, _⟩ := r.2 x x1
    rw [e, show (x : Int).toNat = x by omega]
    omega
  · obtain ⟨x, e, x1, x2, x3, x4, x5⟩ := key k hk
    obtain ⟨_, m2, _⟩ := r.2 x x1
    rw [e, show (x : Int).toNat = x by omega, r.1]
    exact ⟨by omega, m2 x2⟩
theorem mSim_bd {h : zHp} {t i : Nat} {T : List (List Int)} {bs : List Int} {off : Int} {K : zLyK} {s : zLyS} {V : Nat → Prop} (hl : K.length ≤ 3) (m : mSim h t K s V) (h31 : 0 ≤ gI h 343 31) (hf : fsOk bs s) (hs : sOk off s) : mBd h K.length := by
  obtain ⟨⟨m1, m2, m3, m4, _⟩, e41, _⟩ := m
  obtain ⟨⟨s1, s2⟩, s3, s4, s5⟩ := hs
  have l := hf.1
  rw [m1, mFs_len] at l
  refine ⟨⟨(gI h 343 31).toNat, by omega, l, fun j hj => ?_⟩, e41, by omega, by omega, by omega, by omega, by omega⟩
  have q : mFl h j ∈ lF s := by rw [m1]; exact List.mem_map.mpr ⟨j, List.mem_range.mpr hj, rfl⟩
  exact (hf.2 _ q).2.2.2.1.2
theorem lSetE_come {i : Nat} {s : zLyS} : lSetE (lCome i s) i = lCome i s := by
  unfold lSetE lCome
  have e : upF (upF (lE s) i (lP s)) i (lP s) = upF (lE s) i (lP s) := by
    funext j
    unfold upF
    split <;> rfl
  show lMk (lF s) (lB s) (lP s) (lS s) _ _ (upF (upF (lE s) i (lP s)) i (lP s)) = _
  rw [e]
  rfl
/-- what a pass comes to -/
def mRes (h : zHp) (t : Nat) (V : Nat → Prop) (c : zLyC) (r : Int) : Prop := mVs h c.2.2 ∧ (lB c.2.2 = 0 → r = (c.1 : Int) ∧ mSim h t c.2.1 c.2.2 V)
theorem mFs_I {h h' : zHp} (e1 : gI h' 343 31 = gI h 343 31) (e : ∀ b j, 354 ≤ b → b ≤ 361 → gI h' b j = gI h b j) : mFs h' = mFs h := by
  unfold mFs
  rw [e1]
  refine List.map_congr_left (fun j _ => ?_)
  unfold mFl
  rw [e 354 j (by omega) (by omega), e 355 j (by omega) (by omega), e 356 j (by omega) (by omega), e 357 j (by omega) (by omega), e 358 j (by omega) (by omega), e 359 j (by omega) (by omega), e 360 j (by omega) (by omega)]
  congr 1
  exact List.map_congr_left (fun x _ => e _ _ (by omega) (by omega))
