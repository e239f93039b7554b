/-! the layout of the model: its small parts -/
def mi (h : zHp) (t i f : Nat) : Int := gI h 351 (14 * (24 * t + i) + f)
def clamp (v : Int) : Int := if v < 0 then 0 else if 999 < v then 999 else v
theorem clamp_rng (v : Int) : 0 ≤ clamp v ∧ clamp v ≤ 999 := by
  unfold clamp
  split
  · omega
  · split <;> omega
/-- how often an item is laid -/
def mCnt (h : zHp) (t i : Nat) : Int := if mi h t i 7 = 0 then 1 else if mi h t i 7 = 1 then mi h t i 8 else clamp (gL h 362 (mi h t i 8).toNat)
/-- the next place at a multiple of n from the offset on -/
def alP (p o n : Int) : Int := if (p - o) % n = 0 then p else p + (n - (p - o) % n)
theorem alP_rng {p o n : Int} (hn : 0 < n) : p ≤ alP p o n ∧ alP p o n < p + n := by
  have h1 := Int.emod_nonneg (p - o) (show n ≠ 0 by omega)
  have h2 := Int.emod_lt_of_pos (p - o) hn
  unfold alP
  split <;> omega
section ML
variable {G : zG} {d : Nat} {Q : Option zV → zHp → Prop} {h : zHp}
theorem sp_of {t i f : Nat} (hS : zSh h) (ht : t < 5) (hi : i < 24) (hf : f < 14) (k : Q (some (vI (mi h t i f))) h) : wpN G d M_X11_of 0 (zar 0 [vR 343, vI (t : Int), vI (i : Int), vI (f : Int)]) [] h Q := by
  refine vc_X11_of_0 t i f h hS (Nat.zero_le _) ⟨by omega, by omega, by omega, by omega, by omega, ?_⟩
  rw [show (14 * (24 * (t : Int) + (i : Int)) + (f : Int)).toNat = 14 * (24 * t + i) + f by omega]
  exact k
def mGo : Nat → Nat → Prop := fun b j => b = 343 ∧ (j = 32 ∨ j = 34)
theorem sp_goesIn (hS : zSh h) (h0 : 0 ≤ gI h 343 34) (h1 : gI h 343 34 ≤ 1000) (k : ∀ h', zSh h' → zF4 mGo h h' → gI h' 343 34 = gI h 343 34 + 1 → gI h' 343 32 = (if 400 < gI h 343 34 + 1 then 3 else gI h 343 32) → Q none h') : wpN G d M_X11_goesIn 0 (zar 0 [vR 343]) [] h Q := by
  refine vc_X11_goesIn_0 h hS (Nat.zero_le _) ⟨by omega, fun h1 e1 => ?_⟩
  have a1 : gI h1 343 34 = gI h 343 34 + 1 := by rw [e1, gI_sI, if_pos ⟨rfl, rfl⟩]
  have a2 : gI h1 343 32 = gI h 343 32 := by rw [e1, gI_sI, if_neg (by omega)]
  have F1 : zF4 mGo h h1 := by rw [e1]; exact zF4.sI ⟨rfl, Or.inr rfl⟩
  refine ⟨fun c h4 e4 => ?_, fun c h4 e4 => ?_⟩
  · have F4 : zF4 mGo h h4 := by rw [e4]; exact F1.tr (zF4.sI ⟨rfl, Or.inl rfl⟩)
    exact k h4 (F4.Sh hS) F4 (by rw [e4, gI_sI, if_neg (by omega), a1]) (by rw [e4, gI_sI, if_pos ⟨rfl, rfl⟩, a2, if_neg (by omega)])
  · have F4 : zF4 mGo h h4 := by rw [e4]; exact F1.tr (zF4.sI ⟨rfl, Or.inl rfl⟩)
    exact k h4 (F4.Sh hS) F4 (by rw [e4, gI_sI, if_neg (by omega), a1]) (by rw [e4, gI_sI, if_pos ⟨rfl, rfl⟩, if_pos (by omega)])
def mPos : Nat → Nat → Prop := fun b j => b = 343 ∧ j = 33
theorem alP_step {p o n : Int} (hn : 0 < n) (hr : (p - o) % n ≠ 0) : alP (p + 1) o n = alP p o n ∧ ((p + 1 - o) % n = 0 ∨ (p + 1 - o) % n = (p - o) % n + 1) := by
  have h1 := Int.emod_nonneg (p - o) (show n ≠ 0 by omega)
  have h2 := Int.emod_lt_of_pos (p - o) hn
  have hd := Int.emod_add_mul_ediv (p - o) n
  by_cases q : (p - o) % n + 1 = n
  · have e : (p + 1 - o) % n = 0 := by
      rw [show p + 1 - o = n + n * ((p - o) / n) by omega, Int.add_mul_emod_self_left, Int.emod_self]
    refine ⟨?_, Or.inl e⟩
    unfold alP
    rw [if_pos e, if_neg hr]
    omega
  · have e : (p + 1 - o) % n = (p - o) % n + 1 := by
      rw [show p + 1 - o = ((p - o) % n + 1) + n * ((p - o) / n) by omega, Int.add_mul_emod_self_left, Int.emod_eq_of_lt (by omega) (by omega)]
    refine ⟨?_, Or.inr e⟩
    unfold alP
    rw [e, if_neg (by omega), if_neg hr]
    omega
theorem sp_aligns {o n : Int} (hS : zSh h) (hn : 0 < n) (hn2 : n ≤ 1000) (o0 : 0 ≤ o) (p0 : o ≤ gI h 343 33) (p1 : gI h 343 33 ≤ 1000000) (k : ∀ h', zSh h' → zF4 mPos h h' → gI h' 343 33 = alP (gI h 343 33) o n → Q none h') : wpN G d M_X11_aligns 0 (zar 0 [vR 343, vI o, vI n]) [] h Q := by
  have loop : ∀ (m : Nat) (g : zHp), ((gI g 343 33 - o) % n = 0 ∨ n - (gI g 343 33 - o) % n ≤ m) → zSh g → zF4 mPos h g → o ≤ gI g 343 33 → gI g 343 33 ≤ 1001000 → gI g 343 33 ≤ alP (gI h 343 33) o n → alP (gI g 343 33) o n = alP (gI h 343 33) o n → wpN G d M_X11_aligns 0 [(0, vR 343), (1, vI o), (2, vI n)] [] g Q := by
    intro m
    induction m with
    | zero =>
      intro g hm s F b0 b1 b2 e
      have h2 := Int.emod_lt_of_pos (gI g 343 33 - o) hn
      have hz : (gI g 343 33 - o) % n = 0 := by omega
      refine vc_X11_aligns_0 o n g s (Nat.zero_le _) (fun _ _ _ => False) (fun _ _ _ q => q.elim) ⟨by omega, hn, fun c => k g s F ?_, fun c => ?_⟩
      · rw [← e]; unfold alP; rw [if_pos hz]
      · rw [Int.tmod_eq_emod_of_nonneg (by omega)] at c
        exact absurd hz c
    | succ m ih =>
      intro g hm s F b0 b1 b2 e
      have ar := alP_rng (p := gI h 343 33) (o := o) hn
      refine vc_X11_aligns_0 o n g s (Nat.zero_le _) (fun y1 y2 g' => y1 = o ∧ y2 = n ∧ g' = sI g 343 33 (gI g 343 33 + 1) ∧ (gI g 343 33 - o) % n ≠ 0) ?_ ⟨by omega, hn, fun c => k g s F ?_, fun c => ⟨by omega, fun h2 e2 _ => ⟨rfl, rfl, e2, ?_⟩⟩⟩
      · rintro _ _ _ ⟨q0, q1, q2, q3⟩
        obtain ⟨st1, st2⟩ := alP_step (p := gI g 343 33) (o := o) hn q3
        have eg : gI (sI g 343 33 (gI g 343 33 + 1)) 343 33 = gI g 343 33 + 1 := by rw [gI_sI, if_pos ⟨rfl, rfl⟩]
        have ag := alP_rng (p := gI g 343 33 + 1) (o := o) hn
        rw [q0, q1, q2]
        refine ih _ ?_ s (F.tr (zF4.sI ⟨rfl, rfl⟩)) (by rw [eg]; omega) (by rw [eg]; omega) (by rw [eg]; omega) (by rw [eg, st1, e])
        rw [eg]
        rcases st2 with w | w
        · exact Or.inl w
        · exact Or.inr (by omega)
      · rw [Int.tmod_eq_emod_of_nonneg (by omega)] at c
        rw [← e]; unfold alP; rw [if_pos c]
      · rw [Int.tmod_eq_emod_of_nonneg (by omega)] at c
        exact c
  have h1 := Int.emod_nonneg (gI h 343 33 - o) (show n ≠ 0 by omega)
  exact loop n.toNat h (Or.inr (by omega)) hS zF4.rf p0 (by omega) (alP_rng hn).1 rfl
/-- the count of an item is in order -/
def mcOk (h : zHp) (t i : Nat) : Prop := mi h t i 7 = 0 ∨ (mi h t i 7 = 1 ∧ 0 ≤ mi h t i 8 ∧ mi h t i 8 ≤ 999) ∨ (mi h t i 7 = 2 ∧ 0 ≤ mi h t i 8 ∧ mi h t i 8 < 24)
theorem mCnt_rng {t i : Nat} (ho : mcOk h t i) : 0 ≤ mCnt h t i ∧ mCnt h t i ≤ 999 := by
  unfold mCnt
  rcases ho with q | ⟨q, q2⟩ | ⟨q, q2⟩
  · rw [if_pos q]; omega
  · rw [if_neg (by omega), if_pos q]; omega
  · rw [if_neg (by omega), if_neg (by omega)]; exact clamp_rng _
theorem sp_countOf {t i : Nat} (hd : 1 ≤ d) (hS : zSh h) (ht : t < 5) (hi : i < 24) (ho : mcOk h t i) (k : Q (some (vI (mCnt h t i))) h) : wpN G d M_X11_countOf 0 (zar 0 [vR 343, vI (t : Int), vI (i : Int)]) [] h Q := by
  unfold mCnt at k
  refine vc_X11_countOf_0 t i h hS hd (sp_of (f := 7) hS ht hi (by omega) (qI_i ⟨hS, sp_of (f := 8) hS ht hi (by omega) (qI_i ⟨hS, fun c => ?_, fun c => ⟨fun c1 => ?_, fun c1 => ?_⟩⟩)⟩))
  · have q : mi h t i 7 = 2 ∧ 0 ≤ mi h t i 8 ∧ mi h t i 8 < 24 := by
      rcases ho with q | ⟨q, q2⟩ | q
      · omega
      · omega
      · exact q
    rw [if_neg (by omega), if_neg (by omega)] at k
    refine ⟨by omega, fun x10 e10 => ⟨fun c1 => ⟨fun c2 => ?_, fun c2 => ?_⟩, fun c1 => ?_⟩⟩
    · rw [← e10] at k
      unfold clamp at k
      rw [if_neg (by omega), if_neg (by omega)] at k
      rw [w32_of ⟨by omega, by omega⟩]
      exact k
    · rw [← e10] at k
      unfold clamp at k
      rw [if_neg (by omega), if_pos c2] at k
      exact k
    · rw [← e10] at k
      unfold clamp at k
      rw [if_pos c1] at k
      exact k
  · rw [if_neg c1, if_pos (by rcases ho with q | ⟨q, q2⟩ | ⟨q, q2⟩ <;> omega)] at k
    exact k
  · rw [if_pos c1] at k
    exact k
def mEn : Nat → Nat → Prop := fun b j => (b = 343 ∧ (j = 32 ∨ j = 34 ∨ j = 41)) ∨ b = 365 ∨ b = 366 ∨ b = 367
theorem sp_enters {t i dp : Nat} (hd : 2 ≤ d) (hS : zSh h) (ht : t < 5) (hi : i < 24) (ho : mcOk h t i) (e41 : gI h 343 41 = (dp : Int)) (hdp : dp < 4) (h0 : 0 ≤ gI h 343 34) (h1 : gI h 343 34 ≤ 1000) (k0 : mCnt h t i = 0 → Q none h)
    (k : 0 < mCnt h t i → ∀ h', zSh h' → zF4 mEn h h' → gI h' 343 34 = gI h 343 34 + 1 → gI h' 343 32 = (if 400 < gI h 343 34 + 1 then 3 else gI h 343 32) → gI h' 343 41 = (dp : Int) + 1 → (∀ j, gI h' 365 j = if j = dp then (i : Int) else gI h 365 j) → (∀ j, gI h' 366 j = if j = dp then mCnt h t i else gI h 366 j) → (∀ j, gI h' 367 j = if j = dp then 0 else gI h 367 j) → Q none h') : wpN G d M_X11_enters 0 (zar 0 [vR 343, vI (t : Int), vI (i : Int)]) [] h Q := by
  have cr := mCnt_rng ho
  have ed : (dp : Int).toNat = dp := by omega
  refine vc_X11_enters_0 t i h hS hd (sp_countOf (by omega) hS ht hi ho (qI_i ⟨hS, fun c => k0 (by omega), fun c => ⟨by omega, fun h6 e6 => ?_⟩⟩))
  rw [e41, ed] at e6
  have a6 : gI h6 343 41 = (dp : Int) := by rw [e6, gI_sI, if_neg (by omega), e41]
  refine ⟨by omega, fun h8 e8 => ?_⟩
  rw [a6, ed] at e8
  have a8 : gI h8 343 41 = (dp : Int) := by rw [e8, gI_sI, if_neg (by omega), a6]
  refine ⟨by omega, fun h10 e10 => ?_⟩
  rw [a8, ed] at e10
  have a10 : gI h10 343 41 = (dp : Int) := by rw [e10, gI_sI, if_neg (by omega), a8]
  refine ⟨by omega, fun h12 e12 => ?_⟩
  rw [a10] at e12
  have F12 : zF4 mEn h h12 := by
    rw [e12, e10, e8, e6]
    exact (zF4.sI (Or.inr (Or.inl rfl))).tr ((zF4.sI (Or.inr (Or.inr (Or.inl rfl)))).tr ((zF4.sI (Or.inr (Or.inr (Or.inr rfl)))).tr (zF4.sI (Or.inl ⟨rfl, Or.inr (Or.inr rfl)⟩))))
  have s12 := F12.Sh hS
  have a12 : ∀ j, j ≠ 41 → gI h12 343 j = gI h 343 j := fun j hj => by rw [e12, gI_sI, if_neg (by omega), e10, gI_sI, if_neg (by omega), e8, gI_sI, if_neg (by omega), e6, gI_sI, if_neg (by omega)]
  refine sp_goesIn s12 (by rw [a12 _ (by omega)]; exact h0) (by rw [a12 _ (by omega)]; exact h1) (fun h15 s15 F15 b1 b2 => qV_i ⟨s15, ?_⟩)
  rw [a12 _ (by omega)] at b1 b2
  rw [a12 _ (by omega)] at b2
  have n15 : ∀ b j, b ≠ 343 → gI h15 b j = gI h12 b j := fun b j q => F15.I _ _ (by rintro ⟨w, _⟩; exact q w)
  refine k c h15 s15 (F12.tr (F15.mono (fun b j q => Or.inl ⟨q.1, by rcases q.2 with w | w; exact Or.inl w; exact Or.inr (Or.inl w)⟩))) b1 b2 ?_ (fun j => ?_) (fun j => ?_) (fun j => ?_)
  · rw [F15.I _ _ (by rintro ⟨_, w⟩; omega), e12, gI_sI, if_pos ⟨rfl, rfl⟩]
  · rw [n15 _ _ (by omega), e12, gI_sI, if_neg (by omega), e10, gI_sI, if_neg (by omega), e8, gI_sI, if_neg (by omega), e6, gI_sI]
    by_cases q : j = dp
    · rw [if_pos ⟨rfl, q⟩, if_pos q]
    · rw [if_neg (fun w => q w.2), if_neg q]
  · rw [n15 _ _ (by omega), e12, gI_sI, if_neg (by omega), e10, gI_sI, if_neg (by omega), e8, gI_sI]
    by_cases q : j = dp
    · rw [if_pos ⟨rfl, q⟩, if_pos q]
    · rw [if_neg (fun w => q w.2), if_neg q, e6, gI_sI, if_neg (by omega)]
  · rw [n15 _ _ (by omega), e12, gI_sI, if_neg (by omega), e10, gI_sI]
    by_cases q : j = dp
    · rw [if_pos ⟨rfl, q⟩, if_pos q]
    · rw [if_neg (fun w => q w.2), if_neg q, e8, gI_sI, if_neg (by omega), e6, gI_sI, if_neg (by omega)]
end ML
