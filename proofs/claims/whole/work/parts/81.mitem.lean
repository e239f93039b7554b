/-! reading a template: items, by the model -/
def mITb (G : zG) (d : Nat) (Q : Option zV → zHp → Prop) (y1 : Int) (h17 : zHp) : Prop := (wpN G (d - 1) M_X11_takes 0 (zar 0 [vR 343, vI 46]) [] h17 (qI (fun z21 h22 => zSh h22 ∧ ((z21 = 0 → (wpN G (d - 1) M_X11_takes 0 (zar 0 [vR 343, vI 64]) [] h22 (qI (fun z26 h27 => zSh h27 ∧ ((z26 = 0 → (((gI h27 343 16) ≠ (-1009) → (wpN G (d - 1) M_X11_expects 0 (zar 0 [vR 343, vI 59]) [] h27 (qV (fun h34 => zSh h34 ∧ Q none h34)))) ∧ ((gI h27 343 16) = (-1009) → (wpN G (d - 1) M_X11_readsNamed 0 (zar 0 [vR 343, vI y1]) [] h27 (qI (fun z37 h38 => zSh h38 ∧ ((z37 = 0 → Q none h38) ∧ (z37 ≠ 0 → (wpN G (d - 1) M_X11_expects 0 (zar 0 [vR 343, vI 59]) [] h38 (qV (fun h43 => zSh h43 ∧ Q none h43))))))))))) ∧ (z26 ≠ 0 → (wpN G (d - 1) M_X11_writes 0 (zar 0 [vR 343, vI y1, vI 0, vI 4]) [] h27 (qV (fun h47 => zSh h47 ∧ (wpN G (d - 1) M_X11_number 0 (zar 0 [vR 343]) [] h47 (qI (fun z50 h51 => zSh h51 ∧ (wpN G (d - 1) M_X11_writes 0 (zar 0 [vR 343, vI y1, vI 4, vI z50]) [] h51 (qV (fun h55 => zSh h55 ∧ ((z50 ≠ 0 → (wpN G (d - 1) M_X11_expects 0 (zar 0 [vR 343, vI 59]) [] h55 (qV (fun h61 => zSh h61 ∧ Q none h61)))) ∧ (z50 = 0 → (wpN G (d - 1) M_X11_faults 0 (zar 0 [vR 343, vI (gI h55 343 17)]) [] h55 (qV (fun h65 => zSh h65 ∧ (wpN G (d - 1) M_X11_expects 0 (zar 0 [vR 343, vI 59]) [] h65 (qV (fun h70 => zSh h70 ∧ Q none h70))))))))))))))))))))))) ∧ (z21 ≠ 0 → (wpN G (d - 1) M_X11_writes 0 (zar 0 [vR 343, vI y1, vI 0, vI 3]) [] h22 (qV (fun h74 => zSh h74 ∧ (wpN G (d - 1) M_X11_number 0 (zar 0 [vR 343]) [] h74 (qI (fun z77 h78 => zSh h78 ∧ (wpN G (d - 1) M_X11_writes 0 (zar 0 [vR 343, vI y1, vI 4, vI z77]) [] h78 (qV (fun h82 => zSh h82 ∧ (wpN G (d - 1) M_X11_expects 0 (zar 0 [vR 343, vI 59]) [] h82 (qV (fun h87 => zSh h87 ∧ Q none h87)))))))))))))))))
def sAll : Nat → Prop := fun _ => True
theorem FAll {h h' : zHp} {i : Nat} {S : Nat → Prop} (F : zF4 (mRi i S) h h') : zF4 (mRi i sAll) h h' := F.mono (fun b j w => by
  rcases w with w | ⟨w, f, w2, _, w4⟩
  · exact Or.inl w
  · exact Or.inr ⟨w, f, w2, trivial, w4⟩)
/-- depth, the structure that is read, the number of items -/
def mK3 (h h' : zHp) : Prop := gI h' 343 19 = gI h 343 19 ∧ gI h' 343 20 = gI h 343 20 ∧ gI h' 352 4 = gI h 352 4
theorem mK3_Ri {h h' : zHp} {i : Nat} {S : Nat → Prop} (F : zF4 (mRi i S) h h') : mK3 h h' := by
  refine ⟨F.I _ _ ?_, F.I _ _ ?_, F.I _ _ ?_⟩
  · rintro (⟨_, _, w⟩ | ⟨w, _⟩) <;> omega
  · rintro (⟨_, _, w⟩ | ⟨w, _⟩) <;> omega
  · rintro (⟨w, _⟩ | ⟨w, _⟩) <;> omega
theorem mK3_tr {h h1 h2 : zHp} (a : mK3 h h1) (b : mK3 h1 h2) : mK3 h h2 := ⟨b.1.trans a.1, b.2.1.trans a.2.1, b.2.2.trans a.2.2⟩
theorem mR4_app {h : zHp} {T : List (List Int)} {r : List Int} {k : Nat} (hk : k < T.length) (x : mR4 h T k) : mR4 h (T ++ [r]) k := by
  have e : ∀ f, ti (T ++ [r]) k f = ti T k f := fun f => ti_app hk
  unfold mR4 mTr1
  simp only [e]
  exact x
theorem mR4_mk {h : zHp} {T : List (List Int)} {kind name size lit q fin cc cv a b c f l : Int} (H : ((kind ≤ 1 → mi h 4 T.length 0 = 0 ∧ mi h 4 T.length 5 = kind ∧ mi h 4 T.length 4 = size ∧ mi h 4 T.length 6 = lit) ∧ (kind = 5 → mi h 4 T.length 0 = 1) ∧ (2 ≤ kind ∧ kind ≤ 4 → mi h 4 T.length 0 = 2 ∧ mi h 4 T.length 10 = kind ∧ mi h 4 T.length 4 = size ∧ mi h 4 T.length 11 = f ∧ mi h 4 T.length 12 = l) ∧ (kind = 6 → mi h 4 T.length 0 = 3 ∧ mi h 4 T.length 4 = c) ∧ (kind = 7 → mi h 4 T.length 0 = 4 ∧ mi h 4 T.length 4 = c) ∧ (kind ≤ 5 → mi h 4 T.length 1 = name) ∧ mi h 4 T.length 2 = cc ∧ mi h 4 T.length 3 = cv ∧ (a = 0 → mi h 4 T.length 7 = 0) ∧ (a ≠ 0 ∧ b = -1 → mi h 4 T.length 7 = 1 ∧ mi h 4 T.length 8 = c) ∧ (a ≠ 0 ∧ b ≠ -1 → mi h 4 T.length 7 = 2 ∧ mi h 4 T.length 8 = b) ∧ mi h 4 T.length 9 = fin ∧ mi h 4 T.length 13 = q) ∧ (6 ≤ kind → mi h 4 T.length 1 = 0)) : mR4 h (T ++ [rw13 kind name size lit q fin cc cv a b c f l]) T.length := by
  unfold mR4 mTr1
  simp only [ti_new]
  exact H
theorem mRs_new {h : zHp} {T : List (List Int)} {r : List Int} (x : mRs h T T.length) (y : mR4 h (T ++ [r]) T.length) : mRs h (T ++ [r]) (T ++ [r]).length := fun k hk => by
  have ll : (T ++ [r]).length = T.length + 1 := by rw [List.length_append]; rfl
  by_cases q : k < T.length
  · exact mR4_app q (x k q)
  · rw [show k = T.length by omega]; exact y
section MITEM
variable {G : zG} {d : Nat} {Q : Option zV → zHp → Prop} {h : zHp} {t : List Int} {p : Nat} {T : List (List Int)} {K : List Nat}
theorem mR_Ri {g g' : zHp} {S : Nat → Prop} (F : zF4 (mRi T.length S) g g') (x : mRs g T T.length) : mRs g' T T.length := mRs_Ri F (Nat.le_refl _) x
/-- what reading the type of a new item comes to -/
def tyP (Q : Option zV → zHp → Prop) (h : zHp) (t : List Int) (T : List (List Int)) (X : Nat ⊕ (Nat × (List Int × Bool))) : Prop :=
  (∀ h' p' r, X = .inr (p', (r, true)) → zSh h' → zF4 mPr h h' → mLv h' t p' → mRs h' (T ++ [r]) (T ++ [r]).length → mK3 h h' → Q (some (vI 1)) h') ∧
  (∀ h' p' r, X = .inr (p', (r, false)) → zSh h' → zF4 mPr h h' → mLv h' t p' → mRs h' (T ++ [r]) (T ++ [r]).length → gI h' 343 19 = gI h 343 19 + 1 → gI h' 343 20 = (T.length : Int) → gI h' 352 4 = gI h 352 4 → Q (some (vI 0)) h') ∧
  (∀ h' f, X = .inl f → zSh h' → zF4 mPr h h' → mDd h' t f → Q (some (vI 1)) h')
theorem sp_readsType {name cc cv : Int} (ht : byT t) (hd : 7 ≤ d) (hS : zSh h) (x : mLv h t p) (nx : mNx h T T.length (kTop K)) (w1 : mi h 4 T.length 1 = name) (w2 : mi h 4 T.length 2 = cc) (w3 : mi h 4 T.length 3 = cv) (w7 : mi h 4 T.length 7 = 0) (w9 : mi h 4 T.length 9 = (T.length : Int) + 1) (dep : gI h 343 19 = (K.length : Int)) (hL : K.length ≤ 3)
    (k : tyP Q h t T (pTy t T (kTop K) K.length T.length p name cc cv)) : wpN G d M_X11_readsType 0 (zar 0 [vR 343, vI (T.length : Int)]) [] h Q := by
  obtain ⟨k1, k2, k0⟩ := k
  have hi := nx.1
  have w13 : mi h 4 T.length 13 = kTop K := nx.2.2.2.2.2.2.1
  have chk : ∀ (kind size : Int), (kind = 2 ∧ size = 1) ∨ ((kind = 3 ∨ kind = 4) ∧ size = 2) → tg t p ≠ -1 → pTy t T (kTop K) K.length T.length p name cc cv = pB (pChk t T (kTop K) T.length p) (fun x => .inr (x.1, (rw13 kind name size 0 (kTop K) ((T.length : Int) + 1) cc cv 0 (-1) 0 x.2.1 x.2.2, true))) → wpN G (d - 1) M_X11_readsCheck 0 (zar 0 [vR 343, vI (T.length : Int), vI kind]) [] h (qV (fun h15 => zSh h15 ∧ Q (some (vI 1)) h15)) := by
    intro kind size hk hp et
    refine sp_readsCheck (by omega) hS x (tg_lt hp) nx (fun h' y ey s' F x' v0 v10 v4 v11 v12 => qV_i ⟨s', k1 h' y.1 _ (by rw [et, pB_inr ey]) s' (FRP F) x' (mRs_new (mR_Ri F nx.2.2.1) (mR4_mk ?_)) (mK3_Ri F)⟩) (fun h' f ey s' F d' => qV_i ⟨s', k0 h' f (by rw [et, pB_inl ey]) s' (FRP F) d'⟩)
    have o : ∀ f, f < 14 → ¬ sCk f → mi h' 4 T.length f = mi h 4 T.length f := fun f hf hn => mi_Ri F hf (Or.inr hn)
    have u1 := o 1 (by omega) (by unfold sCk; omega)
    have u2 := o 2 (by omega) (by unfold sCk; omega)
    have u3 := o 3 (by omega) (by unfold sCk; omega)
    have u7 := o 7 (by omega) (by unfold sCk; omega)
    have u9 := o 9 (by omega) (by unfold sCk; omega)
    have u13 := o 13 (by omega) (by unfold sCk; omega)
    have s4 : mi h' 4 T.length 4 = size := by rw [v4]; split <;> omega
    exact ⟨⟨fun z => by omega, fun z => by omega, fun _ => ⟨v0, v10, s4, v11, v12⟩, fun z => by omega, fun z => by omega, fun _ => by omega, by omega, by omega, fun _ => by omega, fun z => absurd rfl z.1, fun z => absurd rfl z.1, by omega, by omega⟩, fun z => by omega⟩
  have int : (tg t p = 117 ∨ tg t p = 105) → wpN G (d - 1) M_X11_readsInteger 0 (zar 0 [vR 343, vI (T.length : Int)]) [] h (qV (fun h15 => zSh h15 ∧ Q (some (vI 1)) h15)) := by
    intro c
    have et : pTy t T (kTop K) K.length T.length p name cc cv = pB (pInt t p) (fun x => pB (pCt t T (kTop K) T.length x.1) (fun y => .inr (y.1, (rw13 (if tg t p = 105 then 1 else 0) name x.2.1 x.2.2 (kTop K) ((T.length : Int) + 1) cc cv y.2.1 y.2.2.1 y.2.2.2 (-1) (-1), true)))) := by unfold pTy; rw [if_pos c]
    refine sp_readsInt ht (by omega) hS x (tg_lt (by omega)) nx w7 (fun h' u y eu ey s' F x' v0 v5 v4 v6 ct => qV_i ⟨s', k1 h' y.1 _ (by rw [et, pB_inr eu, pB_inr ey]) s' (FRP F) x' (mRs_new (mR_Ri F nx.2.2.1) (mR4_mk ?_)) (mK3_Ri F)⟩) (fun h' f ef s' F d' => qV_i ⟨s', k0 h' f ?_ s' (FRP F) d'⟩)
    · have o : ∀ f, f < 14 → ¬ sIn f → mi h' 4 T.length f = mi h 4 T.length f := fun f hf hn => mi_Ri F hf (Or.inr hn)
      have u1 := o 1 (by omega) (by unfold sIn; omega)
      have u2 := o 2 (by omega) (by unfold sIn; omega)
      have u3 := o 3 (by omega) (by unfold sIn; omega)
      have u9 := o 9 (by omega) (by unfold sIn; omega)
      have u13 := o 13 (by omega) (by unfold sIn; omega)
      have kd : (if tg t p = 105 then (1 : Int) else 0) = 0 ∨ (if tg t p = 105 then (1 : Int) else 0) = 1 := by split <;> simp
      exact ⟨⟨fun _ => ⟨v0, v5, v4, v6⟩, fun z => by omega, fun z => by omega, fun z => by omega, fun z => by omega, fun _ => by omega, by omega, by omega, ct.1, ct.2.1, ct.2.2, by omega, by omega⟩, fun z => by omega⟩
    · rcases ef with ef | ⟨u, eu, ef⟩
      · rw [et, pB_inl ef]
      · rw [et, pB_inr eu, pB_inl ef]
  have bad : pTy t T (kTop K) K.length T.length p name cc cv = .inl p → wpN G (d - 1) M_X11_faults 0 (zar 0 [vR 343, vI (gI h 343 15)]) [] h (qV (fun h44 => zSh h44 ∧ Q (some (vI 1)) h44)) := fun e =>
    sp_faultsL hS x x.2.2.2.1 (fun h' s' F d' => qV_i ⟨s', k0 h' p e s' (FSP F) d'⟩)
  have c4 : tg t p = 99 → pTy t T (kTop K) K.length T.length p name cc cv = pB (pChk t T (kTop K) T.length p) (fun x => .inr (x.1, (rw13 4 name 2 0 (kTop K) ((T.length : Int) + 1) cc cv 0 (-1) 0 x.2.1 x.2.2, true))) := fun c => by unfold pTy; rw [if_neg (by omega), if_neg (by omega), if_neg (by omega), if_neg (by omega), if_pos c]
  have c3 : tg t p = 115 → pTy t T (kTop K) K.length T.length p name cc cv = pB (pChk t T (kTop K) T.length p) (fun x => .inr (x.1, (rw13 3 name 2 0 (kTop K) ((T.length : Int) + 1) cc cv 0 (-1) 0 x.2.1 x.2.2, true))) := fun c => by unfold pTy; rw [if_neg (by omega), if_neg (by omega), if_neg (by omega), if_pos c]
  have c2 : tg t p = 120 → pTy t T (kTop K) K.length T.length p name cc cv = pB (pChk t T (kTop K) T.length p) (fun x => .inr (x.1, (rw13 2 name 1 0 (kTop K) ((T.length : Int) + 1) cc cv 0 (-1) 0 x.2.1 x.2.2, true))) := fun c => by unfold pTy; rw [if_neg (by omega), if_neg (by omega), if_pos c]
  refine vc_X11_readsType_0 T.length h hS hd (sp_nextL hS x (qI_i ⟨hS, fun c => int (Or.inl c), fun n1 => ⟨fun n2 => ⟨fun c => ⟨fun z => absurd c z, fun _ => chk 2 1 (by omega) (by omega) (c2 c)⟩, fun n3 => ⟨fun c => ⟨fun _ => ⟨fun z => absurd c z, fun _ => chk 3 2 (by omega) (by omega) (c3 c)⟩, fun z => absurd z n3⟩, fun n4 => ⟨fun n5 => ⟨fun n6 => bad ?_, fun c => ⟨fun z => bad ?_, fun z => ?_⟩⟩, fun c => ⟨fun _ => ⟨fun _ => chk 4 2 (by omega) (by omega) (c4 c), fun z => absurd z n4⟩, fun z => absurd z n3⟩⟩⟩⟩, fun c => int (Or.inr c)⟩⟩))
  · unfold pTy; rw [if_neg (by omega), if_neg (by omega), if_neg (by omega), if_neg (by omega), if_neg (by omega)]
  · unfold pTy; rw [if_neg (by omega), if_pos c, if_pos (by omega)]
  · refine sp_takesL (by omega) hS x (by omega) (fun h53 p53 e53 _ s53 F53 x53 on => qI_i ⟨s53, ?_⟩) (fun _ ne => absurd c ne)
    have ep : p53 = bl t (p + 1) := by unfold pSg at e53; rw [if_pos c] at e53; exact (Sum.inr.inj e53).symm
    refine sp_writes (f := 0) sAll s53 hi (by omega) trivial (fun h57 s57 F57 v57 o57 b57 => qV_i ⟨s57, ?_⟩)
    have d57 : gI h57 343 19 = gI h 343 19 := by rw [b57 _ _ (by omega), on 19 (by omega)]
    rw [d57]
    refine ⟨by omega, fun h60 e60 h62 e62 => ?_⟩
    have F62 : zF4 mPr h57 h62 := by rw [e62, e60]; exact (zF4.sI (Or.inl ⟨rfl, by omega, by omega⟩)).tr (zF4.sI (Or.inl ⟨rfl, by omega, by omega⟩))
    have o62 : ∀ b j, ¬ (b = 343 ∧ (j = 19 ∨ j = 20)) → gI h62 b j = gI h57 b j := fun b j w => by rw [e62, gI_sI, if_neg (by omega), e60, gI_sI, if_neg (by omega)]
    have FF : zF4 mPr h h62 := ((FSP F53).tr (FRP F57)).tr F62
    have m62 : ∀ k f, mi h62 4 k f = mi h57 4 k f := fun k f => o62 _ _ (by omega)
    have old : ∀ f, f < 14 → f ≠ 0 → mi h62 4 T.length f = mi h 4 T.length f := fun f hf hn => by rw [m62, o57 _ f hf (Or.inr hn), mi_Sc F53]
    have u1 := old 1 (by omega) (by omega)
    have u2 := old 2 (by omega) (by omega)
    have u3 := old 3 (by omega) (by omega)
    have u7 := old 7 (by omega) (by omega)
    have u9 := old 9 (by omega) (by omega)
    have u13 := old 13 (by omega) (by omega)
    refine k2 h62 (bl t (p + 1)) _ (by unfold pTy; rw [if_neg (by omega), if_pos c, if_neg (by omega)]) (F62.Sh s57) FF (mLv_mv F62 (mLv_W F57 b57 x53) (by rw [← ep]; exact x53.2.2.1) (by rw [o62 _ _ (by omega), b57 _ _ (by omega), x53.2.2.2.1, ep]) (by rw [o62 _ _ (by omega), b57 _ _ (by omega)]; exact x53.2.2.2.2)) (mRs_new (fun k hk => mR4_mi (fun f hf => by rw [m62, o57 k f hf (Or.inl (by omega)), mi_Sc F53]) (nx.2.2.1 k hk)) (mR4_mk ?_)) ?_ ?_ ?_
    · refine ⟨⟨fun z => by omega, fun _ => by rw [m62, v57], fun z => by omega, fun z => by omega, fun z => by omega, fun _ => by omega, by omega, by omega, fun _ => by omega, fun z => absurd rfl z.1, fun z => absurd rfl z.1, by omega, by omega⟩, fun z => by omega⟩
    · rw [e62, gI_sI, if_neg (by omega), e60, gI_sI, if_pos ⟨rfl, rfl⟩]
    · rw [e62, gI_sI, if_pos ⟨rfl, rfl⟩]
    · rw [o62 _ _ (by omega), b57 _ _ (by omega), F53.I _ _ (by rintro ⟨w, _⟩; omega)]
theorem tyP_F {h0 : zHp} {X : Nat ⊕ (Nat × (List Int × Bool))} (F : zF4 mPr h0 h) (k3 : mK3 h0 h) (k : tyP Q h0 t T X) : tyP Q h t T X := by
  refine ⟨fun h' p' r e s' F' x' m' k' => k.1 h' p' r e s' (F.tr F') x' m' (mK3_tr k3 k'), fun h' p' r e s' F' x' m' a b c => k.2.1 h' p' r e s' (F.tr F') x' m' (by rw [a, k3.1]) b (by rw [c, k3.2.2]), fun h' f e s' F' d' => k.2.2 h' f e s' (F.tr F') d'⟩
theorem sp_readsNamed {x0 : Nat} {cc cv : Int} (ht : byT t) (hd : 8 ≤ d) (hS : zSh h) (x : mLv h t x0) (nx : mNx h T T.length (kTop K)) (w2 : mi h 4 T.length 2 = cc) (w3 : mi h 4 T.length 3 = cv) (w7 : mi h 4 T.length 7 = 0) (w9 : mi h 4 T.length 9 = (T.length : Int) + 1) (dep : gI h 343 19 = (K.length : Int)) (top : gI h 343 20 = kTop K) (hL : K.length ≤ 3)
    (k : tyP Q h t T (pB (pNm t T (kTop K) T.length x0) (fun p2 => pTy t T (kTop K) K.length T.length p2 (tg t x0) cc cv))) : wpN G d M_X11_readsNamed 0 (zar 0 [vR 343, vI (T.length : Int)]) [] h Q := by
  have hi := nx.1
  -- dead behind the name
  have fd : ∀ (g : zHp) (f : Nat) (z1 : Int), pNm t T (kTop K) T.length x0 = .inl f → zSh g → zF4 mPr h g → mDd g t f → wpN G (d - 1) M_X11_expects 0 (zar 0 [vR 343, vI 58]) [] g (qV (fun h7 => zSh h7 ∧ (wpN G (d - 1) M_X11_writes 0 (zar 0 [vR 343, vI (T.length : Int), vI 1, vI z1]) [] h7 (qV (fun h11 => zSh h11 ∧ (((gI h11 343 16) ≠ (-1009) → Q (some (vI 1)) h11) ∧ ((gI h11 343 16) = (-1009) → (wpN G (d - 1) M_X11_readsType 0 (zar 0 [vR 343, vI (T.length : Int)]) [] h11 (qI (fun z15 h16 => zSh h16 ∧ ((z15 = 0 → Q (some (vI 0)) h16) ∧ (z15 ≠ 0 → Q (some (vI 1)) h16)))))))))))) := by
    intro g f z1 ef sg F dg
    refine sp_expectsD (by omega) sg dg (fun g2 s2 F2 d2 => qV_i ⟨s2, sp_writes (f := 1) sAll s2 hi (by omega) trivial (fun g3 s3 F3 v3 o3 b3 => qV_i ⟨s3, fun _ => ?_, fun w => ?_⟩)⟩)
    · exact k.2.2 g3 f (pB_inl ef) s3 ((F.tr (FSP F2)).tr (FRP F3)) (mDd_W F3 b3 d2)
    · rw [(mDd_W F3 b3 d2).2.2.2] at w; omega
  refine vc_X11_readsNamed_0 T.length h hS hd (sp_nameL (by omega) hS x (fun h2 nm s2 F2 x2 e18 => qI_i ⟨s2, fun w => absurd x2.2.2.2.2 w, fun _ => ?_⟩) (fun h2 nm s2 F2 d2 e18 => qI_i ⟨s2, fun _ => fd h2 x0 0 (by unfold pNm; rw [if_neg (fun w => by rw [nm] at w; cases w.1)]) s2 (FSP F2) d2, fun w => by rw [d2.2.2.2] at w; omega⟩))
  obtain ⟨y1, y2, y3, y4, y5, y6, y7, y8⟩ := mNx_Sc F2 nx
  have t2 : gI h2 343 20 = kTop K := by rw [F2.I _ _ (by rintro ⟨_, _, w⟩; omega), top]
  have d2' : gI h2 343 19 = (K.length : Int) := by rw [F2.I _ _ (by rintro ⟨_, _, w⟩; omega), dep]
  rw [t2]
  refine sp_inBlock (by omega) s2 (by omega) y3 (fun k hk => y4 k (by omega)) (isNmB_iff.mp nm) (qI_i ⟨s2, fun lt => ?_, fun ge => ?_⟩)
  · have en : pNm t T (kTop K) T.length x0 = pSg t 58 (bl t (x0 + 1)) := by unfold pNm; rw [if_pos ⟨nm, lt⟩]
    refine sp_expectsL (by omega) s2 x2 (by omega) (fun h26 p2 e26 s26 F26 x26 => qV_i ⟨s26, sp_writes (f := 1) sAll s26 hi (by omega) trivial (fun h30 s30 F30 v30 o30 b30 => qV_i ⟨s30, fun w => ?_, fun _ => ?_⟩)⟩) (fun h26 f e26 s26 F26 d26 => qV_i ⟨s26, sp_writes (f := 1) sAll s26 hi (by omega) trivial (fun h30 s30 F30 v30 o30 b30 => qV_i ⟨s30, fun _ => ?_, fun w => ?_⟩)⟩)
    · exact absurd (mLv_W F30 b30 x26).2.2.2.2 w
    · have FA : zF4 (mRi T.length sAll) h h30 := (FSR (F2.tr F26)).tr F30
      have old : ∀ f, f < 14 → f ≠ 1 → mi h30 4 T.length f = mi h 4 T.length f := fun f hf hn => by rw [o30 _ f hf (Or.inr hn), mi_Sc (F2.tr F26)]
      have nx30 : mNx h30 T T.length (kTop K) := ⟨nx.1, nx.2.1, mR_Ri FA nx.2.2.1, nx.2.2.2.1, nx.2.2.2.2.1, nx.2.2.2.2.2.1, by rw [old 13 (by omega) (by omega)]; exact nx.2.2.2.2.2.2.1, nx.2.2.2.2.2.2.2⟩
      have k3 := mK3_Ri FA
      refine sp_readsType (K := K) ht (by omega) s30 (mLv_W F30 b30 x26) nx30 v30 (by rw [old 2 (by omega) (by omega), w2]) (by rw [old 3 (by omega) (by omega), w3]) (by rw [old 7 (by omega) (by omega), w7]) (by rw [old 9 (by omega) (by omega), w9]) (by rw [k3.1, dep]) hL ?_
      rw [pB_inr (by rw [en, e26])] at k
      have kk := tyP_F (FRP FA) k3 k
      exact ⟨fun h' p' r e s' F' x' m' k' => qI_i ⟨s', fun w => absurd w (by omega), fun _ => kk.1 h' p' r e s' F' x' m' k'⟩, fun h' p' r e s' F' x' m' a b c => qI_i ⟨s', fun _ => kk.2.1 h' p' r e s' F' x' m' a b c, fun w => absurd rfl w⟩, fun h' f e s' F' d' => qI_i ⟨s', fun w => absurd w (by omega), fun _ => kk.2.2 h' f e s' F' d'⟩⟩
    · exact k.2.2 h30 f (pB_inl (by rw [en, e26])) s30 ((FSP (F2.tr F26)).tr (FRP F30)) (mDd_W F30 b30 d26)
    · rw [(mDd_W F30 b30 d26).2.2.2] at w; omega
  · exact sp_faultsL s2 x2 e18 (fun h40 s40 F40 d40 => qV_i ⟨s40, fd h40 x0 _ (by unfold pNm; rw [if_neg (fun w => by have := w.2; omega)]) s40 (FSP (F2.tr F40)) d40⟩)
/-- what reading an item comes to -/
def itP (Q : Option zV → zHp → Prop) (h : zHp) (t : List Int) (T : List (List Int)) (K : List Nat) (X : Nat ⊕ (Nat × (List Int × Bool))) : Prop :=
  (∀ h' p' r, X = .inr (p', (r, true)) → zSh h' → zF4 mPr h h' → mLv h' t p' → mRs h' (T ++ [r]) (T ++ [r]).length → gI h' 343 19 = (K.length : Int) → gI h' 343 20 = kTop K → gI h' 352 4 = (T.length : Int) + 1 → Q none h') ∧
  (∀ h' p' r, X = .inr (p', (r, false)) → zSh h' → zF4 mPr h h' → mLv h' t p' → mRs h' (T ++ [r]) (T ++ [r]).length → gI h' 343 19 = (K.length : Int) + 1 → gI h' 343 20 = (T.length : Int) → gI h' 352 4 = (T.length : Int) + 1 → Q none h') ∧
  (∀ h' f, X = .inl f → zSh h' → zF4 mPr h h' → mDd h' t f → Q none h')
theorem sp_mitD {f : Nat} (hd : 9 ≤ d) (hS : zSh h) (x : mDd h t f) (k : ∀ h', zSh h' → zF4 mPr h h' → mDd h' t f → Q none h') : mITb G d Q (T.length : Int) h := by
  unfold mITb
  refine sp_takesD (by omega) hS x (qI_i ⟨hS, fun _ => sp_takesD (by omega) hS x (qI_i ⟨hS, fun _ => ⟨fun _ => sp_expectsD (by omega) hS x (fun h' s' F d' => qV_i ⟨s', k h' s' (FSP F) d'⟩), fun w => by rw [x.2.2.2] at w; omega⟩, fun w => absurd rfl w⟩), fun w => absurd rfl w⟩)
theorem sp_mitL {x0 : Nat} {cc cv : Int} (ht : byT t) (hd : 9 ≤ d) (hS : zSh h) (x : mLv h t x0) (nx : mNx h T T.length (kTop K)) (w0 : ∀ f, f < 14 → f ≠ 2 → f ≠ 3 → f ≠ 9 → f ≠ 13 → mi h 4 T.length f = 0) (w2 : mi h 4 T.length 2 = cc) (w3 : mi h 4 T.length 3 = cv) (w9 : mi h 4 T.length 9 = (T.length : Int) + 1) (dep : gI h 343 19 = (K.length : Int)) (top : gI h 343 20 = kTop K) (num : gI h 352 4 = (T.length : Int) + 1) (hL : K.length ≤ 3)
    (k : itP Q h t T K (pB (if tg t x0 = 46 ∨ tg t x0 = 64 then pGap t (kTop K) T.length x0 cc cv else pB (pNm t T (kTop K) T.length x0) (fun p2 => pTy t T (kTop K) K.length T.length p2 (tg t x0) cc cv)) (fun y => if y.2.2 = true then pB (pSg t 59 y.1) (fun p3 => .inr (p3, y.2)) else .inr y))) : mITb G d Q (T.length : Int) h := by
  have hi := nx.1
  have w13 : mi h 4 T.length 13 = kTop K := nx.2.2.2.2.2.2.1
  -- the semicolon behind an item that is over
  have semi : ∀ (g : zHp) (p1 : Nat) (r : List Int), (if tg t x0 = 46 ∨ tg t x0 = 64 then pGap t (kTop K) T.length x0 cc cv else pB (pNm t T (kTop K) T.length x0) (fun p2 => pTy t T (kTop K) K.length T.length p2 (tg t x0) cc cv)) = .inr (p1, (r, true)) → zSh g → zF4 mPr h g → mLv g t p1 → mRs g (T ++ [r]) (T ++ [r]).length → mK3 h g → wpN G (d - 1) M_X11_expects 0 (zar 0 [vR 343, vI 59]) [] g (qV (fun h43 => zSh h43 ∧ Q none h43)) := by
    intro g p1 r e sg F xg mg k3
    rw [pB_inr e] at k
    have k' : itP Q h t T K (pB (pSg t 59 p1) (fun p3 => .inr (p3, (r, true)))) := k
    refine sp_expectsL (by omega) sg xg (by omega) (fun g2 p3 e3 s2 F2 x2 => qV_i ⟨s2, k'.1 g2 p3 r (pB_inr e3) s2 (F.tr (FSP F2)) x2 (mRs_Sc F2 mg) ?_ ?_ ?_⟩) (fun g2 f e3 s2 F2 d2 => qV_i ⟨s2, k'.2.2 g2 f (pB_inl e3) s2 (F.tr (FSP F2)) d2⟩)
    · rw [F2.I _ _ (by rintro ⟨_, _, w⟩; omega), k3.1, dep]
    · rw [F2.I _ _ (by rintro ⟨_, _, w⟩; omega), k3.2.1, top]
    · rw [F2.I _ _ (by rintro ⟨w, _⟩; omega), k3.2.2, num]
  have dead : ∀ (g : zHp) (f : Nat), (if tg t x0 = 46 ∨ tg t x0 = 64 then pGap t (kTop K) T.length x0 cc cv else pB (pNm t T (kTop K) T.length x0) (fun p2 => pTy t T (kTop K) K.length T.length p2 (tg t x0) cc cv)) = .inl f → zSh g → zF4 mPr h g → mDd g t f → wpN G (d - 1) M_X11_expects 0 (zar 0 [vR 343, vI 59]) [] g (qV (fun h43 => zSh h43 ∧ Q none h43)) := fun g f e sg F dg =>
    sp_expectsD (by omega) sg dg (fun g2 s2 F2 d2 => qV_i ⟨s2, k.2.2 g2 f (pB_inl e) s2 (F.tr (FSP F2)) d2⟩)
  -- the row of a gap
  have gapR : ∀ (g : zHp) (kind mk n : Int), (kind = 6 ∧ mk = 3) ∨ (kind = 7 ∧ mk = 4) → zF4 (mRi T.length sAll) h g → mi g 4 T.length 0 = mk → mi g 4 T.length 4 = n → (∀ f, f < 14 → f ≠ 0 → f ≠ 4 → mi g 4 T.length f = mi h 4 T.length f) → mRs g (T ++ [rw13 kind (-1) 0 0 (kTop K) ((T.length : Int) + 1) cc cv 0 (-1) n (-1) (-1)]) (T ++ [rw13 kind (-1) 0 0 (kTop K) ((T.length : Int) + 1) cc cv 0 (-1) n (-1) (-1)]).length := by
    intro g kind mk n hk F v0 v4 o
    have u1 := o 1 (by omega) (by omega) (by omega)
    have u2 := o 2 (by omega) (by omega) (by omega)
    have u3 := o 3 (by omega) (by omega) (by omega)
    have u7 := o 7 (by omega) (by omega) (by omega)
    have u9 := o 9 (by omega) (by omega) (by omega)
    have u13 := o 13 (by omega) (by omega) (by omega)
    have z1 := w0 1 (by omega) (by omega) (by omega) (by omega) (by omega)
    have z7 := w0 7 (by omega) (by omega) (by omega) (by omega) (by omega)
    refine mRs_new (mR_Ri F nx.2.2.1) (mR4_mk ?_)
    exact ⟨⟨fun z => by omega, fun z => by omega, fun z => by omega, fun z => ⟨by omega, v4⟩, fun z => ⟨by omega, v4⟩, fun z => by omega, by omega, by omega, fun _ => by omega, fun z => absurd rfl z.1, fun z => absurd rfl z.1, by omega, by omega⟩, fun _ => by omega⟩
  unfold mITb
  refine sp_takesL (by omega) hS x (by omega) (fun h22 p22 e22 c46 s22 F22 x22 on22 => qI_i ⟨s22, fun w => absurd w (by omega), fun _ => ?_⟩) (fun _ n46 => qI_i ⟨hS, fun _ => ?_, fun w => absurd rfl w⟩)
  · -- "."
    have ep : p22 = bl t (x0 + 1) := by unfold pSg at e22; rw [if_pos c46] at e22; exact (Sum.inr.inj e22).symm
    refine sp_writes (f := 0) sAll s22 hi (by omega) trivial (fun h74 s74 F74 v74 o74 b74 => qV_i ⟨s74, ?_⟩)
    have x74 := mLv_W F74 b74 x22
    refine sp_numberL (by omega) s74 x74 (fun h78 y ey s78' F78 x78 e17 => qI_i ⟨s78', ?_⟩) (fun h78 f ey s78' F78 d78 => qI_i ⟨s78', ?_⟩)
    · refine sp_writes (f := 4) sAll s78' hi (by omega) trivial (fun h82 s82 F82 v82 o82 b82 => qV_i ⟨s82, ?_⟩)
      have FA : zF4 (mRi T.length sAll) h h82 := (((FSR F22).tr F74).tr (FSR F78)).tr F82
      refine semi h82 y.1 _ ?_ s82 (FRP FA) (mLv_W F82 b82 x78) (gapR h82 6 3 y.2 (by omega) FA ?_ v82 (fun f hf n0 n4 => ?_)) (mK3_Ri FA)
      · rw [if_pos (Or.inl c46)]
        unfold pGap
        rw [← ep, pB_inr ey, if_neg (by omega), if_neg (by omega)]
      · rw [o82 _ 0 (by omega) (Or.inr (by omega)), mi_Sc F78, v74]
      · rw [o82 _ f hf (Or.inr n4), mi_Sc F78, o74 _ f hf (Or.inr n0), mi_Sc F22]
    · refine sp_writes (f := 4) sAll s78' hi (by omega) trivial (fun h82 s82 F82 v82 o82 b82 => qV_i ⟨s82, ?_⟩)
      have FA : zF4 (mRi T.length sAll) h h82 := (((FSR F22).tr F74).tr (FSR F78)).tr F82
      refine dead h82 f ?_ s82 (FRP FA) (mDd_W F82 b82 d78)
      rw [if_pos (Or.inl c46)]
      unfold pGap
      rw [← ep, pB_inl ey]
  · refine sp_takesL (by omega) hS x (by omega) (fun h27 p27 e27 c64 s27 F27 x27 on27 => qI_i ⟨s27, fun w => absurd w (by omega), fun _ => ?_⟩) (fun _ n64 => qI_i ⟨hS, fun _ => ⟨fun w => absurd x.2.2.2.2 w, fun _ => ?_⟩, fun w => absurd rfl w⟩)
    · -- "@"
      have ep : p27 = bl t (x0 + 1) := by unfold pSg at e27; rw [if_pos c64] at e27; exact (Sum.inr.inj e27).symm
      refine sp_writes (f := 0) sAll s27 hi (by omega) trivial (fun h47 s47 F47 v47 o47 b47 => qV_i ⟨s47, ?_⟩)
      have x47 := mLv_W F47 b47 x27
      refine sp_numberL (by omega) s47 x47 (fun h51 y ey s51 F51 x51 e17 => qI_i ⟨s51, ?_⟩) (fun h51 f ey s51 F51 d51 => qI_i ⟨s51, ?_⟩)
      · refine sp_writes (f := 4) sAll s51 hi (by omega) trivial (fun h55 s55 F55 v55 o55 b55 => qV_i ⟨s55, fun nz => ?_, fun z => ?_⟩)
        · have FA : zF4 (mRi T.length sAll) h h55 := (((FSR F27).tr F47).tr (FSR F51)).tr F55
          refine semi h55 y.1 _ ?_ s55 (FRP FA) (mLv_W F55 b55 x51) (gapR h55 7 4 y.2 (by omega) FA ?_ v55 (fun f hf n0 n4 => ?_)) (mK3_Ri FA)
          · rw [if_pos (Or.inr c64)]
            unfold pGap
            rw [← ep, pB_inr ey, if_neg (fun w => nz w.2), if_pos c64]
          · rw [o55 _ 0 (by omega) (Or.inr (by omega)), mi_Sc F51, v47]
          · rw [o55 _ f hf (Or.inr n4), mi_Sc F51, o47 _ f hf (Or.inr n0), mi_Sc F27]
        · have FA : zF4 (mRi T.length sAll) h h55 := (((FSR F27).tr F47).tr (FSR F51)).tr F55
          have e17' : gI h55 343 17 = (p27 : Int) := by rw [b55 _ _ (by omega), e17]
          refine sp_faultsL s55 (mLv_W F55 b55 x51) e17' (fun h65 s65 F65 d65 => qV_i ⟨s65, dead h65 p27 ?_ s65 ((FRP FA).tr (FSP F65)) d65⟩)
          rw [if_pos (Or.inr c64)]
          unfold pGap
          rw [← ep, pB_inr ey, if_pos ⟨c64, z⟩]
      · have ef : (if tg t x0 = 46 ∨ tg t x0 = 64 then pGap t (kTop K) T.length x0 cc cv else pB (pNm t T (kTop K) T.length x0) (fun p2 => pTy t T (kTop K) K.length T.length p2 (tg t x0) cc cv)) = .inl f := by
          rw [if_pos (Or.inr c64)]
          unfold pGap
          rw [← ep, pB_inl ey]
        refine sp_writes (f := 4) sAll s51 hi (by omega) trivial (fun h55 s55 F55 v55 o55 b55 => qV_i ⟨s55, fun nz => absurd rfl nz, fun _ => ?_⟩)
        have FA : zF4 (mRi T.length sAll) h h55 := (((FSR F27).tr F47).tr (FSR F51)).tr F55
        exact sp_faultsD s55 (mDd_W F55 b55 d51) (fun h65 s65 F65 d65 => qV_i ⟨s65, dead h65 f ef s65 ((FRP FA).tr (FSP F65)) d65⟩)
    · have ni : ¬ (tg t x0 = 46 ∨ tg t x0 = 64) := by omega
      rw [if_neg ni] at semi dead k
      refine sp_readsNamed (K := K) ht (by omega) hS x nx w2 w3 (w0 7 (by omega) (by omega) (by omega) (by omega) (by omega)) w9 dep top hL ⟨fun h' p' r e s' F' x' m' k3 => qI_i ⟨s', fun w => absurd w (by omega), fun _ => semi h' p' r e s' F' x' m' k3⟩, fun h' p' r e s' F' x' m' a b c => qI_i ⟨s', fun _ => ?_, fun w => absurd rfl w⟩, fun h' f e s' F' d' => qI_i ⟨s', fun w => absurd w (by omega), fun _ => dead h' f e s' F' d'⟩⟩
      rw [pB_inr e] at k
      have k' : itP Q h t T K (.inr (p', (r, false))) := k
      exact k'.2.1 h' p' r rfl s' F' x' m' (by rw [a, dep]) b (by rw [c, num])
end MITEM
