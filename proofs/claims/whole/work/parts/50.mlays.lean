/-! a field laid by the model -/
def mLy : Nat → Nat → Prop := fun b j => (b = 343 ∧ (j = 31 ∨ j = 33)) ∨ (354 ≤ b ∧ b ≤ 361)
/-- the field that is laid next: start, size, kind, little, range, how many names -/
def mNew (h : zHp) (t i dp : Nat) (c : Nat) : Int :=
  if c = 354 then gI h 343 33 else if c = 355 then mi h t i 4
  else if c = 356 then (if mi h t i 0 = 2 then mi h t i 10 else mi h t i 5)
  else if c = 357 then (if mi h t i 0 = 2 then 0 else mi h t i 6)
  else if c = 358 then (if mi h t i 0 = 2 then gI h 363 (mi h t i 11).toNat else -1009)
  else if c = 359 then (if mi h t i 0 = 2 then gI h 364 (mi h t i 12).toNat else -1009)
  else (dp : Int) + 1
/-- what the layout needs of an item and of the stack -/
def mlOk (h : zHp) (t i dp : Nat) (rep : Int) : Prop := (0 ≤ mi h t i 4 ∧ mi h t i 4 ≤ 1000) ∧ (mi h t i 0 = 2 → (0 ≤ mi h t i 11 ∧ mi h t i 11 < 24) ∧ 0 ≤ mi h t i 12 ∧ mi h t i 12 < 24) ∧ (0 ≤ mi h t i 1 ∧ mi h t i 1 ≤ 127) ∧ (0 ≤ rep ∧ rep ≤ 999) ∧
  ∀ k : Nat, k < dp → (0 ≤ gI h 365 k ∧ gI h 365 k < 24) ∧ (0 ≤ gI h 367 k ∧ gI h 367 k ≤ 999) ∧ 0 ≤ mi h t (gI h 365 k).toNat 1 ∧ mi h t (gI h 365 k).toNat 1 ≤ 127
section MLS
variable {G : zG} {d : Nat} {Q : Option zV → zHp → Prop} {h : zHp}
theorem mi_F {P : Nat → Nat → Prop} {h h' : zHp} (F : zF4 P h h') (hp : ∀ j, ¬ P 351 j) (t i f : Nat) : mi h' t i f = mi h t i f := F.I _ _ (hp _)
theorem sp_lays {t i n dp : Nat} {rep : Int} (hd : 1 ≤ d) (hS : zSh h) (ht : t < 5) (hi : i < 24) (e31 : gI h 343 31 = (n : Int)) (hn : n ≤ 60) (e41 : gI h 343 41 = (dp : Int)) (hdp : dp < 4) (p0 : 0 ≤ gI h 343 33) (p1 : gI h 343 33 ≤ 1000000) (ho : mlOk h t i dp rep)
    (k2 : n = 60 → Q (some (vI 0)) (sI h 343 32 2)) (k1 : n < 60 → gI h 344 200 < gI h 343 33 + mi h t i 4 → Q (some (vI 0)) (sI h 343 32 1))
    (k : n < 60 → gI h 343 33 + mi h t i 4 ≤ gI h 344 200 → ∀ h', zSh h' → zF4 mLy h h' → gI h' 343 31 = (n : Int) + 1 → gI h' 343 33 = gI h 343 33 + mi h t i 4 → (∀ c j : Nat, 354 ≤ c → c ≤ 360 → gI h' c j = if j = n then mNew h t i dp c else gI h c j) → (∀ j : Nat, j < 4 * n → gI h' 361 j = gI h 361 j) → (∀ j : Nat, j < dp → gI h' 361 (4 * n + j) = 1000 * gI h 367 j + mi h t (gI h 365 j).toNat 1) → gI h' 361 (4 * n + dp) = 1000 * rep + mi h t i 1 → Q (some (vI 1)) h') :
    wpN G d M_X11_lays 0 (zar 0 [vR 343, vI (t : Int), vI (i : Int), vI rep]) [] h Q := by
  obtain ⟨o1, o2, o3, o4, o5⟩ := ho
  have en : (n : Int).toNat = n := by omega
  have nL : ∀ j, ¬ mLy 351 j := by rintro j (⟨w, _⟩ | ⟨w, _⟩) <;> omega
  have loop : ∀ (m c : Nat) (y5 : Int) (g : zHp), c + m = dp → n < 60 → gI h 343 33 + mi h t i 4 ≤ gI h 344 200 → zSh g → zF4 mLy h g → (∀ j, gI g 343 j = gI h 343 j) → (∀ c j : Nat, 354 ≤ c → c ≤ 360 → gI g c j = if j = n then mNew h t i dp c else gI h c j) → (∀ j : Nat, j < 4 * n → gI g 361 j = gI h 361 j) → (∀ j : Nat, j < c → gI g 361 (4 * n + j) = 1000 * gI h 367 j + mi h t (gI h 365 j).toNat 1) → wpN G d M_X11_lays 230 [(0, vR 343), (1, vI (t : Int)), (2, vI (i : Int)), (3, vI rep), (4, vI (mi h t i 4)), (5, vI y5), (6, vI (c : Int))] [] g Q := by
    intro m
    induction m with
    | zero =>
      intro c y5 g hc hn2 hb s F e1 e2 e3 e4
      have f31 : gI g 343 31 = (n : Int) := by rw [e1, e31]
      have f41 : gI g 343 41 = (dp : Int) := by rw [e1, e41]
      refine vc_X11_lays_230 t i rep _ y5 c g s hd (fun _ _ _ _ _ _ _ => False) (fun _ _ _ _ _ _ _ q => q.elim) ⟨fun c1 => ⟨by omega, by omega, by omega, sp_of (f := 1) s ht hi (by omega) (qI_i ⟨s, ?_⟩)⟩, fun c1 => by omega⟩
      rw [mi_F F nL]
      refine ⟨by omega, by omega, fun h6 e6 => ?_⟩
      rw [f31, f41, show (4 * (n : Int) + (dp : Int)).toNat = 4 * n + dp by omega] at e6
      have g31 : gI h6 343 31 = (n : Int) := by rw [e6, gI_sI, if_neg (by omega), f31]
      refine ⟨by omega, fun h8 e8 => ?_⟩
      have g33 : gI h8 343 33 = gI h 343 33 := by rw [e8, gI_sI, if_neg (by omega), e6, gI_sI, if_neg (by omega), e1]
      refine ⟨by omega, fun h10 e10 => ?_⟩
      have F10 : zF4 mLy h h10 := by
        rw [e10, e8, e6]
        exact F.tr ((zF4.sI (Or.inr ⟨by omega, by omega⟩)).tr ((zF4.sI (Or.inl ⟨rfl, Or.inl rfl⟩)).tr (zF4.sI (Or.inl ⟨rfl, Or.inr rfl⟩))))
      have n10 : ∀ b j, b ≠ 343 → gI h10 b j = gI h6 b j := fun b j q => by rw [e10, gI_sI, if_neg (by omega), e8, gI_sI, if_neg (by omega)]
      refine k hn2 hb h10 (F10.Sh hS) F10 ?_ ?_ (fun b j b1 b2 => ?_) (fun j hj => ?_) (fun j hj => ?_) ?_
      · rw [e10, gI_sI, if_neg (by omega), e8, gI_sI, if_pos ⟨rfl, rfl⟩, g31]
      · rw [e10, gI_sI, if_pos ⟨rfl, rfl⟩, g33]
      · rw [n10 _ _ (by omega), e6, gI_sI, if_neg (by omega), e2 b j b1 b2]
      · rw [n10 _ _ (by omega), e6, gI_sI, if_neg (by omega), e3 j hj]
      · rw [n10 _ _ (by omega), e6, gI_sI, if_neg (by omega), e4 j (by omega)]
      · rw [n10 _ _ (by omega), e6, gI_sI, if_pos ⟨rfl, rfl⟩]
    | succ m ih =>
      intro c y5 g hc hn2 hb s F e1 e2 e3 e4
      have f31 : gI g 343 31 = (n : Int) := by rw [e1, e31]
      have f41 : gI g 343 41 = (dp : Int) := by rw [e1, e41]
      have f365 : gI g 365 c = gI h 365 c := F.I _ _ (by rintro (⟨w, _⟩ | ⟨w, w2⟩) <;> omega)
      have f367 : gI g 367 c = gI h 367 c := F.I _ _ (by rintro (⟨w, _⟩ | ⟨w, w2⟩) <;> omega)
      obtain ⟨s1, s2, s3⟩ := o5 c (by omega)
      obtain ⟨a, ea⟩ : ∃ a : Nat, gI h 365 c = (a : Int) := ⟨(gI h 365 c).toNat, by omega⟩
      rw [ea, show (a : Int).toNat = a by omega] at s3
      refine vc_X11_lays_230 t i rep _ y5 c g s hd (fun y1 y2 y3 y4 y5' y6 g' => y1 = (t : Int) ∧ y2 = (i : Int) ∧ y3 = rep ∧ y4 = mi h t i 4 ∧ y5' = y5 ∧ y6 = ((c + 1 : Nat) : Int) ∧ g' = sI g 361 (4 * n + c) (1000 * gI h 367 c + mi h t a 1)) ?_ ⟨fun c1 => by omega, fun c1 => ?_⟩
      · rintro _ _ _ _ _ _ _ ⟨q0, q1, q2, q3, q4, q5, q6⟩
        rw [q0, q1, q2, q3, q4, q5, q6]
        refine ih (c + 1) y5 _ (by omega) hn2 hb s (F.tr (zF4.sI (Or.inr ⟨by omega, by omega⟩))) (fun j => by rw [gI_sI, if_neg (by omega), e1]) (fun b j b1 b2 => by rw [gI_sI, if_neg (by omega), e2 b j b1 b2]) (fun j hj => by rw [gI_sI, if_neg (by omega), e3 j hj]) (fun j hj => ?_)
        rw [gI_sI]
        by_cases q : j = c
        · rw [if_pos ⟨rfl, by omega⟩, q, ea, show (a : Int).toNat = a by omega]
        · rw [if_neg (by omega), e4 j (by omega)]
      · rw [show (c : Int).toNat = c by omega, f365, f367, f31, ea]
        refine ⟨by omega, by omega, by omega, by omega, by omega, sp_of (f := 1) s ht (by omega) (by omega) (qI_i ⟨s, ?_⟩)⟩
        rw [mi_F F nL]
        refine ⟨by omega, by omega, fun h16 e16 => ⟨by omega, fun x ex _ => ⟨rfl, rfl, rfl, rfl, rfl, by omega, ?_⟩⟩⟩
        rw [e16, show (4 * (n : Int) + (c : Int)).toNat = 4 * n + c by omega]
  refine vc_X11_lays_0 t i rep h hS hd (fun y1 y2 y3 y4 y5 y6 g => y1 = (t : Int) ∧ y2 = (i : Int) ∧ y3 = rep ∧ y4 = mi h t i 4 ∧ y6 = ((0 : Nat) : Int) ∧ n < 60 ∧ gI h 343 33 + mi h t i 4 ≤ gI h 344 200 ∧ zSh g ∧ zF4 mLy h g ∧ (∀ j, gI g 343 j = gI h 343 j) ∧ (∀ c j : Nat, 354 ≤ c → c ≤ 360 → gI g c j = if j = n then mNew h t i dp c else gI h c j) ∧ (∀ j : Nat, gI g 361 j = gI h 361 j)) ?_ (sp_of (f := 4) hS ht hi (by omega) (qI_i ⟨hS, fun c => ⟨by omega, sp_size hS (qI_i ⟨hS, fun c1 => sp_of (f := 0) hS ht hi (by omega) (qI_i ⟨hS, fun c2 => ?_, fun c2 => ?_⟩), fun c1 h72 e72 => ?_⟩)⟩, fun c h74 e74 => ?_⟩))
  · rintro _ _ _ _ y5 _ g ⟨q0, q1, q2, q3, q4, q5, q6, q7, q8, q9, q10, q11⟩
    rw [q0, q1, q2, q3, q4]
    exact loop dp 0 y5 g (by omega) q5 q6 q7 q8 q9 q10 (fun j _ => q11 j) (fun j hj => absurd hj (by omega))
  · have b : (0 : Int) ≤ (n : Int) ∧ (n : Int) < ((60 : Nat) : Int) := by omega
    rw [e31, en]
    refine ⟨b, fun h16 e16 => ?_⟩
    have x16 : ∀ j, gI h16 343 j = gI h 343 j := fun j => by rw [e16, gI_sI, if_neg (by omega)]
    rw [x16, e31, en]
    refine ⟨b, fun h18 e18 => ?_⟩
    have x18 : ∀ j, gI h18 343 j = gI h 343 j := fun j => by rw [e18, gI_sI, if_neg (by omega), x16]
    have F18 : zF4 mLy h h18 := by rw [e18, e16]; exact (zF4.sI (Or.inr ⟨by omega, by omega⟩)).tr (zF4.sI (Or.inr ⟨by omega, by omega⟩))
    refine sp_of (f := 5) (F18.Sh hS) ht hi (by omega) (qI_i ⟨F18.Sh hS, ?_⟩)
    rw [x18, e31, en, mi_F F18 nL]
    refine ⟨b, fun h25 e25 => ?_⟩
    have x25 : ∀ j, gI h25 343 j = gI h 343 j := fun j => by rw [e25, gI_sI, if_neg (by omega), x18]
    have F25 : zF4 mLy h h25 := by rw [e25]; exact F18.tr (zF4.sI (Or.inr ⟨by omega, by omega⟩))
    refine sp_of (f := 6) (F25.Sh hS) ht hi (by omega) (qI_i ⟨F25.Sh hS, ?_⟩)
    rw [x25, e31, en, mi_F F25 nL]
    refine ⟨b, fun h32 e32 => ?_⟩
    have x32 : ∀ j, gI h32 343 j = gI h 343 j := fun j => by rw [e32, gI_sI, if_neg (by omega), x25]
    rw [x32, e31, en]
    refine ⟨b, fun h35 e35 => ?_⟩
    have x35 : ∀ j, gI h35 343 j = gI h 343 j := fun j => by rw [e35, gI_sI, if_neg (by omega), x32]
    rw [x35, e31, en]
    refine ⟨b, fun h38 e38 => ?_⟩
    have x38 : ∀ j, gI h38 343 j = gI h 343 j := fun j => by rw [e38, gI_sI, if_neg (by omega), x35]
    rw [x38, x38, e31, en, e41]
    refine ⟨by omega, b, fun h40 e40 _ => ?_⟩
    have x40 : ∀ j, gI h40 343 j = gI h 343 j := fun j => by rw [e40, gI_sI, if_neg (by omega), x38]
    have F40 : zF4 mLy h h40 := by
      rw [e40, e38, e35, e32]
      exact F25.tr ((zF4.sI (Or.inr ⟨by omega, by omega⟩)).tr ((zF4.sI (Or.inr ⟨by omega, by omega⟩)).tr ((zF4.sI (Or.inr ⟨by omega, by omega⟩)).tr (zF4.sI (Or.inr ⟨by omega, by omega⟩)))))
    refine ⟨rfl, rfl, rfl, rfl, rfl, by omega, c1, F40.Sh hS, F40, x40, fun b j b1 b2 => ?_, fun j => ?_⟩
    · rw [e40, e38, e35, e32, e25, e18, e16]
      simp only [gI_sI]
      unfold mNew
      by_cases q : j = n
      · rw [if_pos q]
        rcases (show b = 354 ∨ b = 355 ∨ b = 356 ∨ b = 357 ∨ b = 358 ∨ b = 359 ∨ b = 360 by omega) with w | w | w | w | w | w | w <;> rw [w, q] <;> simp [c2]
      · rw [if_neg q]
        simp [q]
    · rw [e40, e38, e35, e32, e25, e18, e16]
      simp only [gI_sI]
      simp
  · have b : (0 : Int) ≤ (n : Int) ∧ (n : Int) < ((60 : Nat) : Int) := by omega
    obtain ⟨⟨r1, r2⟩, r3, r4⟩ := o2 c2
    rw [e31, en]
    refine ⟨b, fun h16 e16 => ?_⟩
    have x16 : ∀ j, gI h16 343 j = gI h 343 j := fun j => by rw [e16, gI_sI, if_neg (by omega)]
    rw [x16, e31, en]
    refine ⟨b, fun h18 e18 => ?_⟩
    have x18 : ∀ j, gI h18 343 j = gI h 343 j := fun j => by rw [e18, gI_sI, if_neg (by omega), x16]
    have F18 : zF4 mLy h h18 := by rw [e18, e16]; exact (zF4.sI (Or.inr ⟨by omega, by omega⟩)).tr (zF4.sI (Or.inr ⟨by omega, by omega⟩))
    refine sp_of (f := 10) (F18.Sh hS) ht hi (by omega) (qI_i ⟨F18.Sh hS, ?_⟩)
    rw [x18, e31, en, mi_F F18 nL]
    refine ⟨b, fun h25 e25 => ?_⟩
    have x25 : ∀ j, gI h25 343 j = gI h 343 j := fun j => by rw [e25, gI_sI, if_neg (by omega), x18]
    rw [x25, e31, en]
    refine ⟨b, fun h32 e32 => ?_⟩
    have x32 : ∀ j, gI h32 343 j = gI h 343 j := fun j => by rw [e32, gI_sI, if_neg (by omega), x25]
    have F32 : zF4 mLy h h32 := by rw [e32, e25]; exact F18.tr ((zF4.sI (Or.inr ⟨by omega, by omega⟩)).tr (zF4.sI (Or.inr ⟨by omega, by omega⟩)))
    refine sp_of (f := 11) (F32.Sh hS) ht hi (by omega) (qI_i ⟨F32.Sh hS, ?_⟩)
    rw [x32, e31, en, mi_F F32 nL, F32.I 363 _ (by rintro (⟨w, _⟩ | ⟨w, w2⟩) <;> omega)]
    refine ⟨by omega, b, fun h35 e35 => ?_⟩
    have x35 : ∀ j, gI h35 343 j = gI h 343 j := fun j => by rw [e35, gI_sI, if_neg (by omega), x32]
    have F35 : zF4 mLy h h35 := by rw [e35]; exact F32.tr (zF4.sI (Or.inr ⟨by omega, by omega⟩))
    refine sp_of (f := 12) (F35.Sh hS) ht hi (by omega) (qI_i ⟨F35.Sh hS, ?_⟩)
    rw [x35, e31, en, mi_F F35 nL, F35.I 364 _ (by rintro (⟨w, _⟩ | ⟨w, w2⟩) <;> omega)]
    refine ⟨by omega, b, fun h38 e38 => ?_⟩
    have x38 : ∀ j, gI h38 343 j = gI h 343 j := fun j => by rw [e38, gI_sI, if_neg (by omega), x35]
    rw [x38, x38, e31, en, e41]
    refine ⟨by omega, b, fun h40 e40 _ => ?_⟩
    have x40 : ∀ j, gI h40 343 j = gI h 343 j := fun j => by rw [e40, gI_sI, if_neg (by omega), x38]
    have F40 : zF4 mLy h h40 := by
      rw [e40, e38]
      exact F35.tr ((zF4.sI (Or.inr ⟨by omega, by omega⟩)).tr (zF4.sI (Or.inr ⟨by omega, by omega⟩)))
    refine ⟨rfl, rfl, rfl, rfl, rfl, by omega, c1, F40.Sh hS, F40, x40, fun b j b1 b2 => ?_, fun j => ?_⟩
    · rw [e40, e38, e35, e32, e25, e18, e16]
      simp only [gI_sI]
      unfold mNew
      by_cases q : j = n
      · rw [if_pos q]
        rcases (show b = 354 ∨ b = 355 ∨ b = 356 ∨ b = 357 ∨ b = 358 ∨ b = 359 ∨ b = 360 by omega) with w | w | w | w | w | w | w <;> rw [w, q] <;> simp [c2]
      · rw [if_neg q]
        simp [q]
    · rw [e40, e38, e35, e32, e25, e18, e16]
      simp only [gI_sI]
      simp
  · rw [e72]; exact k1 (by omega) (by omega)
  · rw [e74]; exact k2 (by omega)
end MLS
