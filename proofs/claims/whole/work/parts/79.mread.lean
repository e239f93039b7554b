/-! reading a template: names and counts, by the model -/
/-- the row of item k, as it is written while reading -/
def mR4 (h : zHp) (T : List (List Int)) (k : Nat) : Prop := mTr1 h 4 T k ∧ (6 ≤ ti T k 0 → mi h 4 k 1 = 0)
def mRs (h : zHp) (T : List (List Int)) (i : Nat) : Prop := ∀ k, k < i → mR4 h T k
/-- the slots of row i that S names, and what reading uses besides -/
def mRi (i : Nat) (S : Nat → Prop) : Nat → Nat → Prop := fun b j => mSc4 b j ∨ (b = 351 ∧ ∃ f, f < 14 ∧ S f ∧ j = 14 * (96 + i) + f)
theorem FSR {h h' : zHp} {i : Nat} {S : Nat → Prop} (F : zF4 mSc4 h h') : zF4 (mRi i S) h h' := F.mono (fun _ _ w => Or.inl w)
theorem FRP {h h' : zHp} {i : Nat} {S : Nat → Prop} (F : zF4 (mRi i S) h h') : zF4 mPr h h' := F.mono (fun b j w => by
  rcases w with w | ⟨w, f, w2, _, w3⟩
  · exact mSc4_Pr w
  · exact Or.inr (Or.inl ⟨w, by omega⟩))
theorem mi4 {h : zHp} {k f : Nat} : mi h 4 k f = gI h 351 (14 * (96 + k) + f) := rfl
theorem mi_Ri {h h' : zHp} {i k f : Nat} {S : Nat → Prop} (F : zF4 (mRi i S) h h') (hf : f < 14) (hk : k ≠ i ∨ ¬ S f) : mi h' 4 k f = mi h 4 k f := by
  rw [mi4, mi4]
  refine F.I _ _ ?_
  rintro (⟨w, _⟩ | ⟨_, g, w1, w2, w3⟩)
  · omega
  · have e1 : k = i := by omega
    have e2 : f = g := by omega
    rcases hk with z | z
    · exact z e1
    · rw [e2] at z; exact z w2
theorem mi_Sc {h h' : zHp} {k f : Nat} (F : zF4 mSc4 h h') : mi h' 4 k f = mi h 4 k f := F.I _ _ (by rintro ⟨w, _⟩; omega)
theorem mR4_mi {h h' : zHp} {T : List (List Int)} {k : Nat} (e : ∀ f, f < 14 → mi h' 4 k f = mi h 4 k f) (x : mR4 h T k) : mR4 h' T k := by
  have e0 := e 0 (by omega)
  have e1 := e 1 (by omega)
  have e2 := e 2 (by omega)
  have e3 := e 3 (by omega)
  have e4 := e 4 (by omega)
  have e5 := e 5 (by omega)
  have e6 := e 6 (by omega)
  have e7 := e 7 (by omega)
  have e8 := e 8 (by omega)
  have e9 := e 9 (by omega)
  have e10 := e 10 (by omega)
  have e11 := e 11 (by omega)
  have e12 := e 12 (by omega)
  have e13 := e 13 (by omega)
  unfold mR4 mTr1
  rw [e0, e1, e2, e3, e4, e5, e6, e7, e8, e9, e10, e11, e12, e13]
  exact x
theorem mRs_Ri {h h' : zHp} {T : List (List Int)} {i n : Nat} {S : Nat → Prop} (F : zF4 (mRi i S) h h') (hn : n ≤ i) (x : mRs h T n) : mRs h' T n := fun k hk => mR4_mi (fun f hf => mi_Ri F hf (Or.inl (by omega))) (x k hk)
theorem mRs_Sc {h h' : zHp} {T : List (List Int)} {n : Nat} (F : zF4 mSc4 h h') (x : mRs h T n) : mRs h' T n := fun k hk => mR4_mi (fun f _ => mi_Sc F) (x k hk)
section MNAME
variable {G : zG} {d : Nat} {Q : Option zV → zHp → Prop} {h : zHp} {t : List Int} {p : Nat} {T : List (List Int)} {i : Nat} {q : Int}
theorem sp_readOf {k f : Nat} (hd : 1 ≤ d) (hS : zSh h) (hk : k < 24) (hf : f < 14) (kk : Q (some (vI (mi h 4 k f))) h) : wpN G d M_X11_readOf 0 (zar 0 [vR 343, vI (k : Int), vI (f : Int)]) [] h Q :=
  vc_X11_readOf_0 k f h hS hd (sp_of (t := 4) hS (by omega) hk hf (qI_i ⟨hS, kk⟩))
theorem sp_writes {f : Nat} {v : Int} (S : Nat → Prop) (hS : zSh h) (hi : i < 24) (hf : f < 14) (hs : S f) (kk : ∀ h', zSh h' → zF4 (mRi i S) h h' → mi h' 4 i f = v → (∀ k g, g < 14 → (k ≠ i ∨ g ≠ f) → mi h' 4 k g = mi h 4 k g) → (∀ b j, b ≠ 351 → gI h' b j = gI h b j) → Q none h') : wpN G d M_X11_writes 0 (zar 0 [vR 343, vI (i : Int), vI (f : Int), vI v]) [] h Q := by
  refine vc_X11_writes_0 i f v h hS (Nat.zero_le _) ⟨by omega, by omega, by omega, ⟨by omega, by omega⟩, fun h1 e1 => ?_⟩
  rw [show (14 * (96 + (i : Int)) + (f : Int)).toNat = 14 * (96 + i) + f by omega] at e1
  have F : zF4 (mRi i S) h h1 := by rw [e1]; exact zF4.sI (Or.inr ⟨rfl, f, hf, hs, rfl⟩)
  refine kk h1 (F.Sh hS) F ?_ (fun k g hg hne => ?_) (fun b j hb => by rw [e1, gI_sI, if_neg (fun w => hb w.1)])
  · rw [mi4, e1, gI_sI, if_pos ⟨rfl, rfl⟩]
  · rw [mi4, mi4, e1, gI_sI, if_neg (by omega)]
theorem mLv_W {h' : zHp} {S : Nat → Prop} (F : zF4 (mRi i S) h h') (e : ∀ b j, b ≠ 351 → gI h' b j = gI h b j) (x : mLv h t p) : mLv h' t p := mLv_mv (FRP F) x x.2.2.1 (by rw [e _ _ (by omega)]; exact x.2.2.2.1) (by rw [e _ _ (by omega)]; exact x.2.2.2.2)
theorem mDd_W {h' : zHp} {S : Nat → Prop} {f : Nat} (F : zF4 (mRi i S) h h') (e : ∀ b j, b ≠ 351 → gI h' b j = gI h b j) (x : mDd h t f) : mDd h' t f := mDd_of (FRP F) x.1 x.2.1 (by rw [e _ _ (by omega)]; exact x.2.2.1) (by rw [e _ _ (by omega)]; exact x.2.2.2)
/-- the last of the first n items with a name in a block, scanned upwards -/
theorem sp_inBlock {c : Int} {n : Nat} (hd : 2 ≤ d) (hS : zSh h) (hn : n ≤ 24) (rs : mRs h T n) (ro : ∀ k, k < n → tRo1 T k) (hc : 97 ≤ c ∧ c ≤ 122) (kk : Q (some (vI (tSb T q n c))) h) : wpN G d M_X11_inBlock 0 (zar 0 [vR 343, vI c, vI q, vI (n : Int)]) [] h Q := by
  have nm : ∀ k, k < n → (mi h 4 k 1 = c ↔ ti T k 1 = c) := fun k hk => by
    obtain ⟨⟨_, _, _, _, _, m6, _⟩, m0⟩ := rs k hk
    obtain ⟨⟨_, k0, k7⟩, ⟨n1, n2⟩, _⟩ := ro k hk
    by_cases w : ti T k 0 ≤ 5
    · rw [m6 w]
    · rw [m0 (by omega), n2 (by omega)]; omega
  have loop : ∀ (m y : Nat), y + m = n → wpN G d M_X11_inBlock 6 [(0, vR 343), (1, vI c), (2, vI q), (3, vI (n : Int)), (4, vI (tSb T q y c)), (5, vI (y : Int))] [] h Q := by
    intro m
    induction m with
    | zero =>
      intro y hy
      refine vc_X11_inBlock_6 c q n _ y h hS hd (fun _ _ _ _ _ _ => False) (fun _ _ _ _ _ _ w => w.elim) ⟨fun _ => by rw [show y = n by omega]; exact kk, fun c => by omega⟩
    | succ m ih =>
      intro y hy
      have m13 : mi h 4 y 13 = ti T y 4 := (rs y (by omega)).1.2.2.2.2.2.2.2.2.2.2.2.2
      refine vc_X11_inBlock_6 c q n _ y h hS hd (fun y1 y2 y3 y4 y5 g => y1 = c ∧ y2 = q ∧ y3 = (n : Int) ∧ y4 = tSb T q (y + 1) c ∧ y5 = ((y + 1 : Nat) : Int) ∧ g = h) ?_ ⟨fun c => by omega, fun _ => sp_readOf (f := 1) (by omega) hS (by omega) (by omega) (qI_i ⟨hS, fun ne => ⟨by omega, fun x7 e7 _ => ⟨rfl, rfl, rfl, ?_, by omega, rfl⟩⟩, fun eq => sp_readOf (f := 13) (by omega) hS (by omega) (by omega) (qI_i ⟨hS, fun ne2 => ⟨by omega, fun x14 e14 _ => ⟨rfl, rfl, rfl, ?_, by omega, rfl⟩⟩, fun eq2 => ⟨by omega, fun x16 e16 _ => ⟨rfl, rfl, rfl, ?_, by omega, rfl⟩⟩⟩)⟩)⟩
      · rintro _ _ _ _ _ _ ⟨z0, z1, z2, z3, z4, z5⟩
        rw [z0, z1, z2, z3, z4, z5]
        exact ih (y + 1) (by omega)
      · rw [tSb, if_neg (fun w => ne ((nm y (by omega)).mpr w.2))]
      · rw [m13] at ne2
        rw [tSb, if_neg (fun w => ne2 w.1)]
      · rw [m13] at eq2
        rw [tSb, if_pos ⟨eq2, (nm y (by omega)).mp eq⟩]
  refine vc_X11_inBlock_0 c q n h hS hd (fun y1 y2 y3 y4 y5 g => y1 = c ∧ y2 = q ∧ y3 = (n : Int) ∧ y4 = -1 ∧ y5 = ((0 : Nat) : Int) ∧ g = h) ?_ (fun _ => ⟨rfl, rfl, rfl, rfl, rfl, rfl⟩)
  rintro _ _ _ _ _ _ ⟨z0, z1, z2, z3, z4, z5⟩
  rw [z0, z1, z2, z3, z4, z5]
  exact loop n 0 (by omega)
theorem tSb_none {c : Int} : ∀ n : Nat, (∀ k, k < n → ti T k 4 ≠ q) → tSb T q n c = -1
  | 0, _ => rfl
  | n + 1, h => by
    rw [tSb, if_neg (fun w => h n (by omega) w.1)]
    exact tSb_none n (fun k hk => h k (by omega))
theorem tLk_out {c : Int} : ∀ n : Nat, tLk T n (-1) c = tSb T (-1) n c
  | 0 => rfl
  | n + 1 => by
    rw [tLk, tSb, if_neg (by omega), tLk_out n]
theorem tLk_in {c : Int} (hp : ∀ k, ti T k 4 < k ∨ T.length ≤ k) : ∀ n : Nat, n ≤ T.length → ∀ q : Nat, q < n → tLk T n (q : Int) c = if 0 ≤ tSb T (q : Int) n c then tSb T (q : Int) n c else tLk T q (ti T q 4) c
  | 0, _, q, h => absurd h (by omega)
  | n + 1, hn, q, h => by
    rw [tLk, tSb]
    by_cases e : (n : Int) = (q : Int)
    · have en : n = q := by omega
      have no : tSb T (q : Int) n c = -1 := tSb_none n (fun k hk => by have := hp k; omega)
      have nn : ¬ (ti T n 4 = (q : Int) ∧ ti T n 1 = c) := fun w => by have := hp n; omega
      rw [if_pos e, if_neg nn, no, if_neg (by omega), en]
    · rw [if_neg e]
      by_cases w : ti T n 4 = (q : Int) ∧ ti T n 1 = c
      · rw [if_pos w, if_pos w, if_pos (by omega)]
      · rw [if_neg w, if_neg w]
        exact tLk_in hp n (by omega) q (by omega)
theorem sp_named {c : Int} (hd : 3 ≤ d) (hS : zSh h) (hi : i < 24) (hl : i ≤ T.length) (rs : mRs h T i) (ro : ∀ k, k < T.length → tRo1 T k) (hp : ∀ k, ti T k 4 < k ∨ T.length ≤ k) (hm : ∀ k, k < T.length → -1 ≤ ti T k 4) (eq : mi h 4 i 13 = q) (hq : -1 ≤ q ∧ q < i) (hc : 97 ≤ c ∧ c ≤ 122) (kk : Q (some (vI (tLk T i q c))) h) : wpN G d M_X11_named 0 (zar 0 [vR 343, vI c, vI (i : Int)]) [] h Q := by
  have loop : ∀ (m y3 : Nat) (y4 : Int), y3 ≤ m → y3 ≤ i → -1 ≤ y4 → y4 < y3 ∨ y4 = -1 → tLk T y3 y4 c = tLk T i q c → wpN G d M_X11_named 21 [(0, vR 343), (1, vI c), (2, vI (i : Int)), (3, vI (y3 : Int)), (4, vI y4), (5, vI (tSb T y4 y3 c))] [] h Q := by
    intro m
    induction m with
    | zero =>
      intro y3 y4 h0 h1 h2 h3 e
      have y0 : y3 = 0 := by omega
      have y1 : y4 = -1 := by omega
      rw [y0, tLk] at e
      rw [y0, y1]
      refine vc_X11_named_21 c i _ (-1) _ h hS hd (fun _ _ _ _ _ _ => False) (fun _ _ _ _ _ _ w => w.elim) ⟨fun w => by rw [tSb] at w; omega, fun _ => ⟨fun _ => ?_, fun w => by omega⟩⟩
      rw [tSb, e]; exact kk
    | succ m ih =>
      intro y3 y4 h0 h1 h2 h3 e
      have rg := tSb_rng (T := T) (q := y4) (c := c) y3
      refine vc_X11_named_21 c i y3 y4 _ h hS hd (fun y1 y2 y3' y4' y5 g => y1 = c ∧ y2 = (i : Int) ∧ y3' = y4 ∧ y4' = ti T y4.toNat 4 ∧ y5 = tSb T (ti T y4.toNat 4) y4.toNat c ∧ g = h ∧ 0 ≤ y4 ∧ tSb T y4 y3 c < 0) ?_ ⟨fun w => ?_, fun w => ⟨fun w2 => ?_, fun w2 => ?_⟩⟩
      · rintro _ _ _ _ _ _ ⟨z0, z1, z2, z3, z4, z5, z6, z7⟩
        obtain ⟨n4, e4⟩ : ∃ n : Nat, y4 = (n : Int) := ⟨y4.toNat, by omega⟩
        have en : y4.toNat = n4 := by omega
        rw [en] at z3 z4
        rw [z0, z1, z2, z3, z4, z5, e4]
        have pn := hp n4
        have mn := hm n4 (by omega)
        refine ih n4 (ti T n4 4) (by omega) (by omega) mn (Or.inl (by omega)) ?_
        rw [← e, e4, tLk_in hp y3 (by omega) n4 (by omega), if_neg]
        rw [e4] at z7
        omega
      · by_cases z : y4 = -1
        · rw [z, tLk_out] at e
          rw [z, e]; exact kk
        · obtain ⟨n4, e4⟩ : ∃ n : Nat, y4 = (n : Int) := ⟨y4.toNat, by omega⟩
          rw [e4] at w e ⊢
          rw [tLk_in hp y3 (by omega) n4 (by omega), if_pos w] at e
          rw [e]; exact kk
      · have z : y4 = -1 := by omega
        rw [z, tLk_out] at e
        rw [z, e]; exact kk
      · obtain ⟨n4, e4⟩ : ∃ n : Nat, y4 = (n : Int) := ⟨y4.toNat, by omega⟩
        have m13 : mi h 4 n4 13 = ti T n4 4 := (rs n4 (by omega)).1.2.2.2.2.2.2.2.2.2.2.2.2
        rw [e4]
        refine sp_readOf (f := 13) (by omega) hS (by omega) (by omega) (qI_i ⟨hS, ?_⟩)
        rw [m13]
        refine sp_inBlock (n := n4) (by omega) hS (by omega) (fun k hk => rs k (by omega)) (fun k hk => ro k (by omega)) hc (qI_i ⟨hS, fun _ => ⟨rfl, rfl, rfl, ?_, ?_, rfl, by omega, ?_⟩⟩)
        · rw [show (n4 : Int).toNat = n4 by omega]
        · rw [show (n4 : Int).toNat = n4 by omega]
        · rw [e4] at w; exact w
  refine vc_X11_named_0 c i h hS hd (fun y1 y2 y3 y4 y5 g => y1 = c ∧ y2 = (i : Int) ∧ y3 = (i : Int) ∧ y4 = q ∧ y5 = tSb T q i c ∧ g = h) ?_ (sp_readOf (f := 13) (by omega) hS hi (by omega) (qI_i ⟨hS, ?_⟩))
  · rintro _ _ _ _ _ _ ⟨z0, z1, z2, z3, z4, z5⟩
    rw [z0, z1, z2, z3, z4, z5]
    exact loop i i q (Nat.le_refl _) (Nat.le_refl _) hq.1 (Or.inl hq.2) rfl
  · rw [eq]
    exact sp_inBlock (by omega) hS (by omega) rs (fun k hk => ro k (by omega)) hc (qI_i ⟨hS, fun _ => ⟨rfl, rfl, rfl, rfl, rfl, rfl⟩⟩)
/-- what looking names up needs -/
def mNx (h : zHp) (T : List (List Int)) (i : Nat) (q : Int) : Prop := i < 24 ∧ i ≤ T.length ∧ mRs h T i ∧ (∀ k, k < T.length → tRo1 T k) ∧ (∀ k, ti T k 4 < k ∨ T.length ≤ k) ∧ (∀ k, k < T.length → -1 ≤ ti T k 4) ∧ mi h 4 i 13 = q ∧ -1 ≤ q ∧ q < i
theorem mNx_Sc {h' : zHp} (F : zF4 mSc4 h h') (x : mNx h T i q) : mNx h' T i q := by
  obtain ⟨x1, x2, x3, x4, x5, x6, x7, x8⟩ := x
  exact ⟨x1, x2, mRs_Sc F x3, x4, x5, x6, by rw [mi_Sc F]; exact x7, x8⟩
theorem mNx_Ri {h' : zHp} {S : Nat → Prop} (F : zF4 (mRi i S) h h') (hS : ¬ S 13) (x : mNx h T i q) : mNx h' T i q := by
  obtain ⟨x1, x2, x3, x4, x5, x6, x7, x8⟩ := x
  exact ⟨x1, x2, mRs_Ri F (Nat.le_refl _) x3, x4, x5, x6, by rw [mi_Ri F (by omega) (Or.inr hS)]; exact x7, x8⟩
theorem sp_intNamedL (hd : 4 ≤ d) (hS : zSh h) (x : mLv h t p) (nx : mNx h T i q)
    (k1 : ∀ h' y, pRf t T q i p = .inr y → zSh h' → zF4 mSc4 h h' → mLv h' t y.1 → Q (some (vI y.2)) h') (k0 : ∀ h' f z, pRf t T q i p = .inl f → zSh h' → zF4 mSc4 h h' → mDd h' t f → Q (some (vI z)) h') : wpN G d M_X11_integerNamed 0 (zar 0 [vR 343, vI (i : Int)]) [] h Q := by
  refine vc_X11_integerNamed_0 i h hS hd (sp_nameL (by omega) hS x (fun h2 nm s2 F2 x2 e18 => qI_i ⟨s2, fun w => absurd x2.2.2.2.2 w, fun _ => ?_⟩) (fun h2 nm s2 F2 d2 e18 => qI_i ⟨s2, fun _ => sp_faultsD s2 d2 (fun h' s' F d' => qV_i ⟨s', k0 h' p _ (by unfold pRf; rw [if_neg (fun w => by rw [nm] at w; cases w.1)]) s' (F2.tr F) d'⟩), fun w => by rw [d2.2.2.2] at w; omega⟩))
  have nx2 := mNx_Sc F2 nx
  obtain ⟨x1, x2', x3, x4, x5, x6, x7, x8⟩ := nx2
  have rg := tLk_rng (T := T) (c := tg t p) i q
  have bad : ¬ (0 ≤ tLk T i q (tg t p) ∧ tPlB T (tLk T i q (tg t p)).toNat = true) → wpN G (d - 1) M_X11_faults 0 (zar 0 [vR 343, vI (gI h2 343 18)]) [] h2 (qV (fun h8 => zSh h8 ∧ Q (some (vI (tLk T i q (tg t p)))) h8)) := fun nb =>
    sp_faultsL s2 x2 e18 (fun h' s' F d' => qV_i ⟨s', k0 h' p _ (by unfold pRf; rw [if_neg (fun w => nb w.2)]) s' (F2.tr F) d'⟩)
  refine sp_named (by omega) s2 x1 x2' x3 x4 x5 x6 x7 x8 (isNmB_iff.mp nm) (qI_i ⟨s2, fun w => bad (fun z => by omega), fun w => ?_⟩)
  obtain ⟨r, er⟩ : ∃ r : Nat, tLk T i q (tg t p) = (r : Int) := ⟨(tLk T i q (tg t p)).toNat, by omega⟩
  obtain ⟨⟨m1, m2, m3, m4, m5, m6, m7, m8, m9, m10, m11, m12, m13⟩, _⟩ := x3 r (by omega)
  obtain ⟨⟨_, k0', k7⟩, _⟩ := x4 r (by omega)
  rw [er] at bad ⊢
  rw [show ((r : Nat) : Int).toNat = r by omega] at bad
  refine sp_readOf (f := 0) (by omega) s2 (by omega) (by omega) (qI_i ⟨s2, fun c => bad (fun z => ?_), fun c => sp_readOf (f := 7) (by omega) s2 (by omega) (by omega) (qI_i ⟨s2, fun c2 => ?_, fun c2 => bad (fun z => ?_)⟩)⟩)
  · have pl := (tPlB_iff.mp z.2).1
    omega
  · have hp : tPlB T r = true := by
      rw [tPlB_iff]
      refine ⟨by omega, ?_⟩
      by_cases z : ti T r 8 = 0
      · exact z
      · by_cases z2 : ti T r 9 = -1
        · have := (m10 ⟨z, z2⟩).1; omega
        · have := (m11 ⟨z, z2⟩).1; omega
    refine k1 h2 (bl t (p + 1), (r : Int)) ?_ s2 F2 x2
    unfold pRf
    rw [er, show ((r : Nat) : Int).toNat = r by omega, if_pos ⟨nm, by omega, hp⟩]
  · have pl := tPlB_iff.mp z.2
    exact c2 (m9 pl.2)
theorem sp_intNamedD {f : Nat} (hd : 4 ≤ d) (hS : zSh h) (x : mDd h t f) (k : ∀ h' z, zSh h' → zF4 mSc4 h h' → mDd h' t f → Q (some (vI z)) h') : wpN G d M_X11_integerNamed 0 (zar 0 [vR 343, vI (i : Int)]) [] h Q :=
  vc_X11_integerNamed_0 i h hS hd (sp_nameD (by omega) hS x (fun h2 z s2 F2 d2 => qI_i ⟨s2, fun _ => sp_faultsD s2 d2 (fun h' s' F d' => qV_i ⟨s', k h' _ s' (F2.tr F) d'⟩), fun w => by rw [d2.2.2.2] at w; omega⟩))
theorem sp_sibNamedL (hd : 3 ≤ d) (hS : zSh h) (x : mLv h t p) (nx : mNx h T i q)
    (k1 : ∀ h', isNmB (tg t p) = true → 0 ≤ tSb T q i (tg t p) → zSh h' → zF4 mSc4 h h' → mLv h' t (bl t (p + 1)) → gI h' 343 18 = (p : Int) → Q (some (vI (tSb T q i (tg t p)))) h') (k0 : ∀ h' z, ¬ (isNmB (tg t p) = true ∧ 0 ≤ tSb T q i (tg t p)) → zSh h' → zF4 mSc4 h h' → mDd h' t p → Q (some (vI z)) h') : wpN G d M_X11_siblingNamed 0 (zar 0 [vR 343, vI (i : Int)]) [] h Q := by
  refine vc_X11_siblingNamed_0 i h hS hd (sp_nameL (by omega) hS x (fun h2 nm s2 F2 x2 e18 => qI_i ⟨s2, fun w => absurd x2.2.2.2.2 w, fun _ => ?_⟩) (fun h2 nm s2 F2 d2 e18 => qI_i ⟨s2, fun _ => sp_faultsD s2 d2 (fun h' s' F d' => qV_i ⟨s', k0 h' _ (fun w => by rw [nm] at w; cases w.1) s' (F2.tr F) d'⟩), fun w => by rw [d2.2.2.2] at w; omega⟩))
  obtain ⟨y1, y2, y3, y4, y5, y6, y7, y8⟩ := mNx_Sc F2 nx
  refine sp_readOf (f := 13) (by omega) s2 y1 (by omega) (qI_i ⟨s2, ?_⟩)
  rw [y7]
  refine sp_inBlock (by omega) s2 (by omega) y3 (fun k hk => y4 k (by omega)) (isNmB_iff.mp nm) (qI_i ⟨s2, fun w => k1 h2 nm w s2 F2 x2 e18, fun w => ?_⟩)
  exact sp_faultsL s2 x2 e18 (fun h' s' F d' => qV_i ⟨s', k0 h' _ (fun z => by omega) s' (F2.tr F) d'⟩)
def s78 : Nat → Prop := fun j => j = 7 ∨ j = 8
theorem sp_readsCountD {f : Nat} (hd : 5 ≤ d) (hS : zSh h) (x : mDd h t f) (k : Q none h) : wpN G d M_X11_readsCount 0 (zar 0 [vR 343, vI (i : Int)]) [] h Q :=
  vc_X11_readsCount_0 i h hS hd (sp_takesD (by omega) hS x (qI_i ⟨hS, fun w => absurd rfl w, fun _ => k⟩))
/-- a count: slots 7 and 8 as mTr1 has them of (counted, (counter, number)) -/
def ctM (h : zHp) (i : Nat) (c : Int × (Int × Int)) : Prop := (c.1 = 0 → mi h 4 i 7 = 0) ∧ (c.1 ≠ 0 ∧ c.2.1 = -1 → mi h 4 i 7 = 1 ∧ mi h 4 i 8 = c.2.2) ∧ (c.1 ≠ 0 ∧ c.2.1 ≠ -1 → mi h 4 i 7 = 2 ∧ mi h 4 i 8 = c.2.1)
theorem sp_readsCountL (hd : 5 ≤ d) (hS : zSh h) (x : mLv h t p) (nx : mNx h T i q) (e7 : mi h 4 i 7 = 0)
    (k1 : ∀ h' y, pCt t T q i p = .inr y → zSh h' → zF4 (mRi i s78) h h' → mLv h' t y.1 → ctM h' i y.2 → Q none h') (k0 : ∀ h' f, pCt t T q i p = .inl f → zSh h' → zF4 (mRi i s78) h h' → mDd h' t f → Q none h') : wpN G d M_X11_readsCount 0 (zar 0 [vR 343, vI (i : Int)]) [] h Q := by
  have hi := nx.1
  refine vc_X11_readsCount_0 i h hS hd (sp_takesL (by omega) hS x (by omega) (fun h2 p2 e2 c2 s2 F2 x2 _ => qI_i ⟨s2, fun _ => ?_, fun w => absurd w (by omega)⟩) (fun e2 c2 => qI_i ⟨hS, fun w => absurd rfl w, fun _ => k1 h (p, (0, (-1, 0))) (by unfold pCt; rw [if_neg c2]) hS zF4.rf x ⟨fun _ => e7, fun w => absurd rfl w.1, fun w => absurd rfl w.1⟩⟩))
  have ep2 : p2 = bl t (p + 1) := by unfold pSg at e2; rw [if_pos c2] at e2; exact (Sum.inr.inj e2).symm
  have nx2 := mNx_Sc F2 nx
  refine sp_nextL s2 x2 (qI_i ⟨s2, sp_in s2 (fun r hr => qI_i ⟨s2, fun z => ?_, fun z => ?_⟩)⟩)
  · -- a name
    have nd : isDgB (tg t p2) = false := by
      cases hh : isDgB (tg t p2) with
      | false => rfl
      | true =>
        have := isDgB_iff.mp hh
        have w1 := this.1
        have w2 := this.2
        rcases hr with w | w <;> omega
    have ec : ∀ f, pRf t T q i p2 = .inl f → pCt t T q i p = .inl f := fun f e => by
      unfold pCt
      rw [if_pos c2, ← ep2]
      by_cases nm : isNmB (tg t p2) = true
      · rw [if_pos nm, pB_inl e]
      · rw [if_neg nm]
        unfold pRf at e
        rw [if_neg (fun w => nm w.1)] at e
        have : pNu t p2 = .inl p2 := by unfold pNu; rw [if_neg (by rw [nd]; simp)]
        rw [pB_inl this]
        exact congrArg Sum.inl (Sum.inl.inj e)
    refine sp_intNamedL (by omega) s2 x2 nx2 (fun h16 y ey s16 F16 x16 => qI_i ⟨s16, fun _ => ?_, fun w => absurd z w⟩) (fun h16 f v ey s16 F16 d16 => qI_i ⟨s16, fun _ => ?_, fun w => absurd z w⟩)
    · refine sp_writes (f := 7) s78 s16 hi (by omega) (Or.inl rfl) (fun h21 s21 F21 v21 o21 b21 => qV_i ⟨s21, ?_⟩)
      refine sp_writes (f := 8) s78 s21 hi (by omega) (Or.inr rfl) (fun h25 s25 F25 v25 o25 b25 => qV_i ⟨s25, ?_⟩)
      have nm : isNmB (tg t p2) = true := by
        unfold pRf at ey
        split at ey
        · rename_i w; exact w.1
        · cases ey
      have ny := (pRf_ok ey).1.1
      refine k1 h25 (y.1, (1, (y.2, 0))) (by unfold pCt; rw [if_pos c2, ← ep2, if_pos nm, pB_inr ey]) s25 (((FSR (F2.tr F16)).tr F21).tr F25) (mLv_W F25 b25 (mLv_W F21 b21 x16)) ⟨fun w => absurd w (by show ¬ (1 : Int) = 0; omega), fun w => absurd w.2 (by show ¬ y.2 = -1; omega), fun _ => ⟨?_, v25⟩⟩
      rw [o25 i 7 (by omega) (Or.inr (by omega)), v21]
    · refine sp_writes (f := 7) s78 s16 hi (by omega) (Or.inl rfl) (fun h21 s21 F21 v21 o21 b21 => qV_i ⟨s21, ?_⟩)
      refine sp_writes (f := 8) s78 s21 hi (by omega) (Or.inr rfl) (fun h25 s25 F25 v25 o25 b25 => qV_i ⟨s25, ?_⟩)
      exact k0 h25 f (ec f ey) s25 (((FSR (F2.tr F16)).tr F21).tr F25) (mDd_W F25 b25 (mDd_W F21 b21 d16))
  · -- a number
    have dg : isDgB (tg t p2) = true := by
      rw [isDgB_iff]
      rcases hr with w | w
      · exact ⟨w.1, w.2.1⟩
      · exact absurd w.2 z
    have nm : isNmB (tg t p2) = false := by
      have := isDgB_iff.mp dg
      have w2 := this.2
      cases hh : isNmB (tg t p2) with
      | false => rfl
      | true => have w3 := (isNmB_iff.mp hh).1; omega
    have ec : pCt t T q i p = pB (pNu t p2) (fun x => .inr (x.1, (1, (-1, x.2)))) := by unfold pCt; rw [if_pos c2, ← ep2, if_neg (by rw [nm]; simp)]
    refine sp_numberL (by omega) s2 x2 (fun h16 y ey s16 F16 x16 e17 => qI_i ⟨s16, fun w => absurd w z, fun _ => ?_⟩) (fun h16 f ey s16 F16 d16 => ?_)
    · refine sp_writes (f := 7) s78 s16 hi (by omega) (Or.inl rfl) (fun h21 s21 F21 v21 o21 b21 => qV_i ⟨s21, ?_⟩)
      refine sp_writes (f := 8) s78 s21 hi (by omega) (Or.inr rfl) (fun h25 s25 F25 v25 o25 b25 => qV_i ⟨s25, ?_⟩)
      refine k1 h25 (y.1, (1, (-1, y.2))) (by rw [ec, pB_inr ey]) s25 (((FSR (F2.tr F16)).tr F21).tr F25) (mLv_W F25 b25 (mLv_W F21 b21 x16)) ⟨fun w => absurd w (by show ¬ (1 : Int) = 0; omega), fun _ => ⟨?_, v25⟩, fun w => absurd rfl w.2⟩
      rw [o25 i 7 (by omega) (Or.inr (by omega)), v21]
    · unfold pNu at ey
      rw [if_pos dg] at ey
      cases ey
end MNAME
