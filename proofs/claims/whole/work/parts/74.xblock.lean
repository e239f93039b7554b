/-! reading a template: items and blocks, by the program -/
def xSm (G : zG) (d : Nat) (Q : Option zV → zHp → Prop) (z1 : Int) (h9 : zHp) : Prop := (wpN G (d - 1) M_X9_parseSign 0 (zar 0 [vR 211, vI 59]) [] h9 (qI (fun z13 h14 => zSh h14 ∧ ((z13 ≠ 0 → (zT 369 (gR h14 211 1) = (108, 2) ∧ (((0 : Int) ≤ z1 ∧ z1 < ((24 : Nat) : Int)) ∧ (zT 369 (gR h14 211 1) = (108, 2) ∧ (∀ h18 : zHp, h18 = sI h14 ((gR h14 211 1) + 2 + z1.toNat) 5 (gI h14 (gR h14 211 1) 1) → Q (some (vI 1)) h18))))) ∧ (z13 = 0 → Q (some (vI 0)) h14)))))
def xIB (G : zG) (d : Nat) (Q : Option zV → zHp → Prop) (z1 p2 : Int) (h2 : zHp) : Prop := (((gI h2 211 3) = 46 → (zT 369 (gR h2 211 1) = (108, 2) ∧ (((0 : Int) ≤ z1 ∧ z1 < ((24 : Nat) : Int)) ∧ (wpN G (d - 1) M_X9_parseGap 0 (zar 0 [vR 211, vR ((gR h2 211 1) + 2 + z1.toNat)]) [] h2 (qI (fun z8 h9 => zSh h9 ∧ ((z8 = 0 → Q (some (vI 0)) h9) ∧ (z8 ≠ 0 → (wpN G (d - 1) M_X9_parseSign 0 (zar 0 [vR 211, vI 59]) [] h9 (qI (fun z13 h14 => zSh h14 ∧ ((z13 ≠ 0 → (zT 369 (gR h14 211 1) = (108, 2) ∧ (((0 : Int) ≤ z1 ∧ z1 < ((24 : Nat) : Int)) ∧ (zT 369 (gR h14 211 1) = (108, 2) ∧ (∀ h18 : zHp, h18 = sI h14 ((gR h14 211 1) + 2 + z1.toNat) 5 (gI h14 (gR h14 211 1) 1) → Q (some (vI 1)) h18))))) ∧ (z13 = 0 → Q (some (vI 0)) h14))))))))))))) ∧ ((gI h2 211 3) ≠ 46 → (((gI h2 211 3) ≠ 64 → (wpN G (d - 1) M_X9_parseName 0 (zar 0 [vR 211, vI z1]) [] h2 (qI (fun z21 h22 => zSh h22 ∧ ((z21 = 0 → Q (some (vI 0)) h22) ∧ (z21 ≠ 0 → (wpN G (d - 1) M_X9_parseType 0 (zar 0 [vR 211, vI z1, vI p2]) [] h22 (qI (fun z27 h28 => zSh h28 ∧ ((z27 = 0 → Q (some (vI 0)) h28) ∧ (z27 ≠ 0 → (wpN G (d - 1) M_X9_parseSign 0 (zar 0 [vR 211, vI 59]) [] h28 (qI (fun z34 h35 => zSh h35 ∧ ((z34 ≠ 0 → (zT 369 (gR h35 211 1) = (108, 2) ∧ (((0 : Int) ≤ z1 ∧ z1 < ((24 : Nat) : Int)) ∧ (zT 369 (gR h35 211 1) = (108, 2) ∧ (∀ h39 : zHp, h39 = sI h35 ((gR h35 211 1) + 2 + z1.toNat) 5 (gI h35 (gR h35 211 1) 1) → Q (some (vI 1)) h39))))) ∧ (z34 = 0 → Q (some (vI 0)) h35)))))))))))))))) ∧ ((gI h2 211 3) = 64 → (zT 369 (gR h2 211 1) = (108, 2) ∧ (((0 : Int) ≤ z1 ∧ z1 < ((24 : Nat) : Int)) ∧ (wpN G (d - 1) M_X9_parseGap 0 (zar 0 [vR 211, vR ((gR h2 211 1) + 2 + z1.toNat)]) [] h2 (qI (fun z41 h42 => zSh h42 ∧ ((z41 = 0 → Q (some (vI 0)) h42) ∧ (z41 ≠ 0 → (wpN G (d - 1) M_X9_parseSign 0 (zar 0 [vR 211, vI 59]) [] h42 (qI (fun z46 h47 => zSh h47 ∧ ((z46 ≠ 0 → (zT 369 (gR h47 211 1) = (108, 2) ∧ (((0 : Int) ≤ z1 ∧ z1 < ((24 : Nat) : Int)) ∧ (zT 369 (gR h47 211 1) = (108, 2) ∧ (∀ h51 : zHp, h51 = sI h47 ((gR h47 211 1) + 2 + z1.toNat) 5 (gI h47 (gR h47 211 1) 1) → Q (some (vI 1)) h51))))) ∧ (z46 = 0 → Q (some (vI 0)) h47))))))))))))))))
def pBs (h : zHp) (a : Nat) (t : List Int) : Prop := zT 369 a = (108, 2) ∧ gR h 211 1 = a ∧ pTx h t
def xRo (h : zHp) (a : Nat) (T : List (List Int)) : Prop := gI h a 1 = (T.length : Int) ∧ ∀ k, k < T.length → ∀ f, f < 13 → gI h (a + 2 + k) f = ti T k f
def pCfg (h : zHp) (a : Nat) (t : List Int) (c : zPC) : Prop := pBs h a t ∧ xRo h a c.2.2 ∧ pAt h t c.1 ∧ gI h 211 4 = -1009 ∧ c.2.2.length ≤ 24
def pFA (a : Nat) : Nat → Nat → Prop := fun b j => p34 b j ∨ (b = a ∧ j = 1) ∨ (a + 2 ≤ b ∧ b < a + 26)
def pKp (T T' : List (List Int)) : Prop := T.length ≤ T'.length ∧ ∀ k, k < T.length → ∀ f, ti T' k f = ti T k f
theorem pKp_tr {T T' T'' : List (List Int)} (x : pKp T T') (y : pKp T' T'') : pKp T T'' := ⟨Nat.le_trans x.1 y.1, fun k hk f => by rw [y.2 k (by have := x.1; omega) f, x.2 k hk f]⟩
theorem ti_app {T : List (List Int)} {r : List Int} {k f : Nat} (hk : k < T.length) : ti (T ++ [r]) k f = ti T k f := by
  unfold ti
  rw [List.getD_eq_getElem?_getD (l := T ++ [r]), List.getElem?_append_left hk, ← List.getD_eq_getElem?_getD]
theorem ti_new {T : List (List Int)} {r : List Int} {f : Nat} : ti (T ++ [r]) T.length f = r.getD f 0 := by
  unfold ti
  rw [List.getD_eq_getElem?_getD (l := T ++ [r]), List.getElem?_append_right (Nat.le_refl _), Nat.sub_self]
  rfl
theorem pKp_app {T : List (List Int)} {r : List Int} : pKp T (T ++ [r]) := ⟨by rw [List.length_append]; omega, fun k hk f => ti_app hk⟩
theorem tCl_len {T : List (List Int)} {i : Nat} {c : Int × (Int × Int)} : (tCl T i c).length = T.length := by unfold tCl; rw [List.length_set]
theorem ti_cl_ne {T : List (List Int)} {i k f : Nat} {c : Int × (Int × Int)} (hk : k ≠ i) : ti (tCl T i c) k f = ti T k f := by
  unfold tCl ti
  rw [List.getD_eq_getElem?_getD (l := T.set i _), List.getElem?_set_ne (fun e => hk e.symm), ← List.getD_eq_getElem?_getD]
theorem ti_cl {T : List (List Int)} {i f : Nat} {c : Int × (Int × Int)} (hi : i < T.length) : ti (tCl T i c) i f = (rw13 (ti T i 0) (ti T i 1) (ti T i 2) (ti T i 3) (ti T i 4) (T.length : Int) (ti T i 6) (ti T i 7) c.1 c.2.1 c.2.2 (ti T i 11) (ti T i 12)).getD f 0 := by
  unfold tCl
  unfold ti
  rw [List.getD_eq_getElem?_getD (l := T.set i _), List.getElem?_set_self hi]
  rfl
section XPB
variable {G : zG} {d : Nat} {Q : Option zV → zHp → Prop} {h : zHp} {t : List Int} {a : Nat}
theorem pStep_item {p : Nat} {K : List Nat} {T : List (List Int)} (hc : K ≠ [] → tg t p ≠ 125) : pStep t (p, (K, T)) = pB (pItm t T (kTop K) K.length p) (fun y => if y.2.2 = true then .inr (y.1, (K, T ++ [y.2.1])) else .inr (y.1, (T.length :: K, T ++ [y.2.1]))) := by
  cases K with
  | nil => rfl
  | cons i K => rw [pStep, if_neg (hc (by simp))]; rfl
theorem pBs_F {h' : zHp} (x : pBs h a t) (F : zF4 (pFA a) h h') : pBs h' a t := by
  have la := ztmp x.1
  exact ⟨x.1, by rw [F.2]; exact x.2.1, pTx_F F (fun j w => by rcases w with ⟨w, _⟩ | ⟨w, _⟩ | w <;> omega) (fun j w => by rcases w with ⟨w, _⟩ | ⟨w, _⟩ | w <;> omega) x.2.2⟩
theorem Fa {h' : zHp} {i : Nat} {S : Nat → Prop} (hi : i < 24) (F : zF4 (pRw a i S) h h') : zF4 (pFA a) h h' := F.mono (fun b j w => by
  rcases w with w | ⟨w, _⟩
  · exact Or.inl w
  · exact Or.inr (Or.inr ⟨by omega, by omega⟩))
theorem Fp {h' : zHp} (F : zF4 p34 h h') : zF4 (pFA a) h h' := F.mono (fun b j w => Or.inl w)
theorem sp_append {T : List (List Int)} {q : Int} (hd : 1 ≤ d) (hS : zSh h) (x : pBs h a t) (r : xRo h a T)
    (k1 : ∀ h', T.length < 24 → zSh h' → zF4 (fun b j => (b = a ∧ j = 1) ∨ b = a + 2 + T.length) h h' → gI h' a 1 = (T.length : Int) + 1 → (∀ f, f < 13 → gI h' (a + 2 + T.length) f = (rw13 6 (-1) 0 0 q ((T.length : Int) + 1) (-1) 0 0 (-1) 0 (-1) (-1)).getD f 0) → Q (some (vI (T.length : Int))) h')
    (k0 : 24 ≤ T.length → Q (some (vI (-1))) h) : wpN G d M_X8_append 0 (zar 0 [vR a, vI q]) [] h Q := by
  have la := ztmp x.1
  refine vc_X8_append_0 a x.1 q h hS hd ?_
  rw [r.1, show (T.length : Int).toNat = T.length by omega]
  refine ⟨fun c => ⟨⟨by omega, by omega⟩, ?_⟩, fun c => k0 (by omega)⟩
  refine vc_X5_reset_0 _ (zitm x.1 (by omega)) q h hS (Nat.zero_le _) (fun h1 e1 h3 e3 h5 e5 h7 e7 h9 e9 h11 e11 h13 e13 h15 e15 h17 e17 h19 e19 h21 e21 h23 e23 => ?_)
  have P : ∀ j, (fun b j => (b = a ∧ j = 1) ∨ b = a + 2 + T.length) (a + 2 + T.length) j := fun j => Or.inr rfl
  have F23 : zF4 (fun b j => (b = a ∧ j = 1) ∨ b = a + 2 + T.length) h h23 := by
    rw [e23, e21, e19, e17, e15, e13, e11, e9, e7, e5, e3, e1]
    exact (((((((((((zF4.sI (P 0)).tr (zF4.sI (P 1))).tr (zF4.sI (P 2))).tr (zF4.sI (P 3))).tr (zF4.sI (P 4))).tr (zF4.sI (P 6))).tr (zF4.sI (P 7))).tr (zF4.sI (P 8))).tr (zF4.sI (P 9))).tr (zF4.sI (P 10))).tr (zF4.sI (P 11))).tr (zF4.sI (P 12))
  have u23 : gI h23 a 1 = (T.length : Int) := by
    have n : ∀ (g : zHp) (j : Nat) (z : Int), gI (sI g (a + 2 + T.length) j z) a 1 = gI g a 1 := fun g j z => by rw [gI_sI, if_neg (by omega)]
    rw [e23, n, e21, n, e19, n, e17, n, e15, n, e13, n, e11, n, e9, n, e7, n, e5, n, e3, n, e1, n, r.1]
  have s23 := F23.Sh hS
  refine qV_i ⟨s23, ?_⟩
  rw [u23]
  refine ⟨by omega, fun h6 e6 => ?_⟩
  have v6 : gI h6 a 1 = (T.length : Int) + 1 := by rw [e6, gI_sI, if_pos ⟨rfl, rfl⟩]
  rw [v6, show ((T.length : Int) + 1 - 1).toNat = T.length by omega]
  refine ⟨by omega, ⟨by omega, by omega⟩, fun h8 e8 => ?_⟩
  have v8 : gI h8 a 1 = (T.length : Int) + 1 := by rw [e8, gI_sI, if_neg (by omega), v6]
  rw [v8, show (T.length : Int) + 1 - 1 = (T.length : Int) by omega]
  refine ⟨by omega, ?_⟩
  have F8 : zF4 (fun b j => (b = a ∧ j = 1) ∨ b = a + 2 + T.length) h h8 := by
    rw [e8, e6]
    exact (F23.tr (zF4.sI (Or.inl ⟨rfl, rfl⟩))).tr (zF4.sI (P 5))
  refine k1 h8 (by omega) (F8.Sh hS) F8 v8 (fun f hf => ?_)
  have n6 : ∀ j, gI h6 (a + 2 + T.length) j = gI h23 (a + 2 + T.length) j := fun j => by rw [e6, gI_sI, if_neg (by omega)]
  rw [e8, gI_sI, n6]
  rcases (show f = 0 ∨ f = 1 ∨ f = 2 ∨ f = 3 ∨ f = 4 ∨ f = 5 ∨ f = 6 ∨ f = 7 ∨ f = 8 ∨ f = 9 ∨ f = 10 ∨ f = 11 ∨ f = 12 by omega) with w | w | w | w | w | w | w | w | w | w | w | w | w <;> rw [w]
  · rw [if_neg (by omega), e23, e21, e19, e17, e15, e13, e11, e9, e7, e5, e3, e1]; simp [gI_sI, rw13]
  · rw [if_neg (by omega), e23, e21, e19, e17, e15, e13, e11, e9, e7, e5, e3]; simp [gI_sI, rw13]
  · rw [if_neg (by omega), e23, e21, e19, e17, e15, e13, e11, e9, e7, e5]; simp [gI_sI, rw13]
  · rw [if_neg (by omega), e23, e21, e19, e17, e15, e13, e11, e9, e7]; simp [gI_sI, rw13]
  · rw [if_neg (by omega), e23, e21, e19, e17, e15, e13, e11, e9]; simp [gI_sI, rw13]
  · rw [if_pos ⟨rfl, rfl⟩]; simp [rw13]
  · rw [if_neg (by omega), e23, e21, e19, e17, e15, e13, e11]; simp [gI_sI, rw13]
  · rw [if_neg (by omega), e23, e21, e19, e17, e15, e13]; simp [gI_sI, rw13]
  · rw [if_neg (by omega), e23, e21, e19, e17, e15]; simp [gI_sI, rw13]
  · rw [if_neg (by omega), e23, e21, e19, e17]; simp [gI_sI, rw13]
  · rw [if_neg (by omega), e23, e21, e19]; simp [gI_sI, rw13]
  · rw [if_neg (by omega), e23, e21]; simp [gI_sI, rw13]
  · rw [if_neg (by omega), e23]; simp [gI_sI, rw13]
/-- behind the type of item i: only the semicolon is wanting -/
def tyS (g : zHp) (a : Nat) (t : List Int) (c : zPC) (i : Nat) : Prop := pBs g a t ∧ gI g 211 4 = -1009 ∧ ∃ (p1 : Nat) (T' : List (List Int)), pAt g t p1 ∧ gI g a 1 = (T'.length : Int) ∧ (∀ k, k < T'.length → ∀ f, f < 13 → (k ≠ i ∨ f ≠ 5) → gI g (a + 2 + k) f = ti T' k f) ∧ ti T' i 5 = (T'.length : Int) ∧ pKp c.2.2 T' ∧ c.2.2.length < T'.length ∧ T'.length ≤ 24 ∧ (∀ p3, pSg t 59 p1 = .inr p3 → ∃ n, pW t n c (p3, (c.2.1, T'))) ∧ ∀ f, pSg t 59 p1 = .inl f → pFl t c f
/-- what reading an item comes to -/
def iPost (Q : Option zV → zHp → Prop) (h : zHp) (a : Nat) (t : List Int) (c : zPC) : Prop := (∀ h' n c', pW t n c c' → c'.2.1 = c.2.1 → pCfg h' a t c' → zSh h' → zF4 (pFA a) h h' → pKp c.2.2 c'.2.2 → c.2.2.length < c'.2.2.length → Q (some (vI 1)) h') ∧ ∀ h' f, pFl t c f → zSh h' → zF4 (pFA a) h h' → gI h' 211 4 = (f : Int) → Q (some (vI 0)) h'
theorem sp_semi {c : zPC} {g : zHp} (hd : 3 ≤ d) (hi : c.2.2.length < 24) (sg : zSh g) (F : zF4 (pFA a) h g) (ts : tyS g a t c c.2.2.length) (k : iPost Q h a t c) : xSm G d Q (c.2.2.length : Int) g := by
  obtain ⟨b, f0, p1, T', pa, u, rows, e5, kp, lt, l24, w1, w0⟩ := ts
  have la := ztmp b.1
  have ei : (c.2.2.length : Int).toNat = c.2.2.length := by omega
  unfold xSm
  refine sp_parseSign (by omega) sg b.2.2 pa (by omega) (fun h14 p3 e14 s14 F14 f14 pa14 => qI_i ⟨s14, fun _ => ?_, fun w => absurd w (by omega)⟩) (fun h14 f e14 s14 F14 f14 => qI_i ⟨s14, fun w => absurd rfl w, fun _ => k.2 h14 f (w0 f e14) s14 (F.tr (Fp F14)) f14⟩)
  have b14 := pBs_F b (Fp F14)
  rw [b14.2.1, ei]
  refine ⟨b.1, ⟨by omega, by omega⟩, b.1, fun h18 e18 => ?_⟩
  have o14 : ∀ x j, x ≠ 211 → gI h14 x j = gI g x j := fun x j w => F14.I _ _ (fun w2 => w w2.1)
  have F18 : zF4 (pFA a) h14 h18 := by rw [e18]; exact zF4.sI (Or.inr (Or.inr ⟨by omega, by omega⟩))
  have o18 : ∀ x j, ¬ (x = a + 2 + c.2.2.length ∧ j = 5) → gI h18 x j = gI h14 x j := fun x j w => by rw [e18, gI_sI, if_neg w]
  have u14 : gI h14 a 1 = (T'.length : Int) := by rw [o14 _ _ (by omega), u]
  obtain ⟨n, w⟩ := w1 p3 e14
  refine k.1 h18 n _ w rfl ⟨pBs_F b14 F18, ⟨?_, fun x hx f hf => ?_⟩, pAt_F (fun j => o18 _ _ (by omega)) pa14, ?_, l24⟩ (F18.Sh s14) ((F.tr (Fp F14)).tr F18) kp lt
  · show gI h18 a 1 = (T'.length : Int)
    rw [o18 _ _ (by omega), u14]
  · have hx' : x < T'.length := hx
    show gI h18 (a + 2 + x) f = ti T' x f
    by_cases q : x = c.2.2.length ∧ f = 5
    · rw [q.1, q.2, e18, gI_sI, if_pos ⟨rfl, rfl⟩, u14, e5]
    · rw [o18 _ _ (by omega), o14 _ _ (by omega), rows x hx' f hf (by omega)]
  · rw [o18 _ _ (by omega), f14, f0]
/-- a block at level L -/
def blSp (G : zG) (d a : Nat) (t : List Int) (L : Nat) : Prop := ∀ (h : zHp) (p : Nat) (K : List Nat) (T : List (List Int)) (Q : Option zV → zHp → Prop), K.length = L → zSh h → pCfg h a t (p, (K, T)) → (∀ h' n c', pW t n (p, (K, T)) c' → c'.2.1 = K → pCfg h' a t c' → zSh h' → zF4 (pFA a) h h' → pKp T c'.2.2 → (L ≠ 0 → tg t c'.1 = 125) → (L = 0 → tg t c'.1 = -1) → Q (some (vI 1)) h') → (∀ h' f, pFl t (p, (K, T)) f → zSh h' → zF4 (pFA a) h h' → gI h' 211 4 = (f : Int) → Q (some (vI 0)) h') → wpN G d M_X9_parseBlock 0 (zar 0 [vR 211, vI (kTop K), vI (L : Int)]) [] h Q
/-- the type of a new item: its row so far -/
def r0 (name q : Int) (i : Nat) (c v : Int) : List Int := rw13 6 name 0 0 q ((i : Int) + 1) c v 0 (-1) 0 (-1) (-1)
theorem sp_parseType {p0 p : Nat} {K : List Nat} {T : List (List Int)} {name cc cv : Int} (hd : 8 ≤ d) (hL : K.length ≤ 3) (hS : zSh h) (b : pBs h a t) (hi : T.length < 24) (u : gI h a 1 = (T.length : Int) + 1) (rows : ∀ k, k < T.length → ∀ f, f < 13 → gI h (a + 2 + k) f = ti T k f) (row : ∀ f, f < 13 → gI h (a + 2 + T.length) f = (r0 name (kTop K) T.length cc cv).getD f 0) (pa : pAt h t p) (f0 : gI h 211 4 = -1009)
    (ne : ¬ pEnd t (p0, (K, T))) (hc : K ≠ [] → tg t p0 ≠ 125) (ep : pItm t T (kTop K) K.length p0 = pB (pTy t T (kTop K) K.length T.length p name cc cv) (fun y => if y.2.2 = true then pB (pSg t 59 y.1) (fun p3 => .inr (p3, y.2)) else .inr y))
    (hB : K.length ≤ 2 → blSp G (d - 1 - 1) a t (K.length + 1))
    (k1 : ∀ h', zSh h' → zF4 (pFA a) h h' → tyS h' a t (p0, (K, T)) T.length → Q (some (vI 1)) h') (k0 : ∀ h' f, pFl t (p0, (K, T)) f → zSh h' → zF4 (pFA a) h h' → gI h' 211 4 = (f : Int) → Q (some (vI 0)) h') : wpN G d M_X9_parseType 0 (zar 0 [vR 211, vI (T.length : Int), vI (K.length : Int)]) [] h Q := by
  have la := ztmp b.1
  have x : pIx h a t T T.length (kTop K) := ⟨b.1, b.2.1, b.2.2, rows, by rw [row 4 (by omega)]; rfl, by omega, hi⟩
  have ei : (T.length : Int).toNat = T.length := by omega
  have est := pStep_item (t := t) (T := T) hc
  have l := pTx_len b.2.2
  have bad : ∀ f, pTy t T (kTop K) K.length T.length p name cc cv = .inl f → pFl t (p0, (K, T)) f := fun f e => pFl_0 ne (by rw [est, ep, pB_inl e]; rfl)
  -- an item that is over
  have over : ∀ (g : zHp) (S : Nat → Prop) (p1 : Nat) (r : List Int), zSh g → zF4 (pRw a T.length S) h g → gI g 211 4 = gI h 211 4 → pAt g t p1 → pTy t T (kTop K) K.length T.length p name cc cv = .inr (p1, (r, true)) → (∀ f, f < 13 → gI g (a + 2 + T.length) f = r.getD f 0) → r.getD 5 0 = (T.length : Int) + 1 → tyS g a t (p0, (K, T)) T.length := by
    intro g S p1 r sg F f4 pg et er e5
    have Fg : zF4 (pFA a) h g := Fa hi F
    have ll : (T ++ [r]).length = T.length + 1 := by rw [List.length_append]; rfl
    have er2 : pItm t T (kTop K) K.length p0 = pB (pSg t 59 p1) (fun p3 => .inr (p3, (r, true))) := by rw [ep, pB_inr et]; rfl
    refine ⟨pBs_F b Fg, by rw [f4, f0], p1, T ++ [r], pg, ?_, fun k hk f hf _ => ?_, ?_, pKp_app, by show T.length < _; omega, by omega, fun p3 e3 => ⟨1, pW_1 ne ?_⟩, fun f e3 => pFl_0 ne ?_⟩
    · rw [F.I _ _ (by rintro (⟨w, _⟩ | ⟨w, _⟩) <;> omega), u, ll]; omega
    · by_cases q : k = T.length
      · rw [q, er f hf, ti_new]
      · rw [F.I _ _ (by rintro (⟨w, _⟩ | ⟨w, _⟩) <;> omega), rows k (by omega) f hf, ti_app (by omega)]
    · show ti (T ++ [r]) T.length 5 = _
      rw [ti_new, e5, ll]; omega
    · rw [est, er2, pB_inr e3]; rfl
    · rw [est, er2, pB_inl e3]; rfl
  have chk : ∀ (kind size : Int) (z : Int), tg t p ≠ -1 → (pTy t T (kTop K) K.length T.length p name cc cv = pB (pChk t T (kTop K) T.length p) (fun x => .inr (x.1, (rw13 kind name size 0 (kTop K) ((T.length : Int) + 1) cc cv 0 (-1) 0 x.2.1 x.2.2, true)))) → wpN G (d - 1) M_X9_parseCheck 0 (zar 0 [vR 211, vI (T.length : Int), vI kind, vI size]) [] h (qI (fun z2 h3 => zSh h3 ∧ ((z2 = 0 ∨ z2 = 1) ∧ Q (some (vI z2)) h3))) := by
    intro kind size z hp et
    refine sp_parseCheck (by omega) hS x pa (tg_lt hp) (fun g y ey sg F f4 pg v0 v2 v11 v12 => qI_i ⟨sg, Or.inr rfl, k1 g sg (Fa hi F) ?_⟩) (fun g f ey sg F f4 => qI_i ⟨sg, Or.inl rfl, k0 g f (bad f (by rw [et, pB_inl ey])) sg (Fa hi F) f4⟩)
    refine over g _ y.1 _ sg F f4 pg (by rw [et, pB_inr ey]) (fun f hf => ?_) rfl
    have n := pRw_n b.1 hi F
    rcases (show f = 0 ∨ f = 1 ∨ f = 2 ∨ f = 3 ∨ f = 4 ∨ f = 5 ∨ f = 6 ∨ f = 7 ∨ f = 8 ∨ f = 9 ∨ f = 10 ∨ f = 11 ∨ f = 12 by omega) with w | w | w | w | w | w | w | w | w | w | w | w | w <;> rw [w]
    · rw [v0]; rfl
    · rw [n 1 (by unfold s02r; omega), row 1 (by omega)]; rfl
    · rw [v2]; rfl
    · rw [n 3 (by unfold s02r; omega), row 3 (by omega)]; rfl
    · rw [n 4 (by unfold s02r; omega), row 4 (by omega)]; rfl
    · rw [n 5 (by unfold s02r; omega), row 5 (by omega)]; rfl
    · rw [n 6 (by unfold s02r; omega), row 6 (by omega)]; rfl
    · rw [n 7 (by unfold s02r; omega), row 7 (by omega)]; rfl
    · rw [n 8 (by unfold s02r; omega), row 8 (by omega)]; rfl
    · rw [n 9 (by unfold s02r; omega), row 9 (by omega)]; rfl
    · rw [n 10 (by unfold s02r; omega), row 10 (by omega)]; rfl
    · rw [v11]; rfl
    · rw [v12]; rfl
  have int : (tg t p = 117 ∨ tg t p = 105) → wpN G (d - 1) M_X9_parseInteger 0 (zar 0 [vR 211, vR (a + 2 + T.length)]) [] h (qI (fun z7 h8 => zSh h8 ∧ ((z7 = 0 → Q (some (vI 0)) h8) ∧ (z7 ≠ 0 → (wpN G (d - 1) M_X9_parseCount 0 (zar 0 [vR 211, vI (T.length : Int)]) [] h8 (qI (fun z12 h13 => zSh h13 ∧ ((z12 = 0 → Q (some (vI 0)) h13) ∧ (z12 ≠ 0 → Q (some (vI 1)) h13))))))))) := by
    intro c
    have et : pTy t T (kTop K) K.length T.length p name cc cv = pB (pInt t p) (fun x => pB (pCt t T (kTop K) T.length x.1) (fun y => .inr (y.1, (rw13 (if tg t p = 105 then 1 else 0) name x.2.1 x.2.2 (kTop K) ((T.length : Int) + 1) cc cv y.2.1 y.2.2.1 y.2.2.2 (-1) (-1), true)))) := by unfold pTy; rw [if_pos c]
    refine sp_parseInt (by omega) hS x pa (tg_lt (by omega)) (fun g y ey sg F f4 pg v0 v2 v3 => qI_i ⟨sg, fun w => absurd w (by omega), fun _ => ?_⟩) (fun g f ey sg F f4 => qI_i ⟨sg, fun _ => k0 g f (bad f (by rw [et, pB_inl ey])) sg (Fa hi F) f4, fun w => absurd rfl w⟩)
    have n := pRw_n b.1 hi F
    have xg := pIx_F x F (by unfold s023; omega)
    refine sp_parseCount (by omega) sg xg pg (by rw [n 8 (by unfold s023; omega), row 8 (by omega)]; rfl) (by rw [n 9 (by unfold s023; omega), row 9 (by omega)]; rfl) (by rw [n 10 (by unfold s023; omega), row 10 (by omega)]; rfl) (fun g2 y2 ey2 s2 F2 f2 pg2 v8 v9 v10 => qI_i ⟨s2, fun w => absurd w (by omega), fun _ => k1 g2 s2 ((Fa hi F).tr (Fa hi F2)) ?_⟩) (fun g2 f ey2 s2 F2 f2 => qI_i ⟨s2, fun _ => k0 g2 f (bad f (by rw [et, pB_inr ey, pB_inl ey2])) s2 ((Fa hi F).tr (Fa hi F2)) f2, fun w => absurd rfl w⟩)
    have F3 : zF4 (pRw a T.length (fun _ => True)) h g2 := (F.mono (fun b j w => by rcases w with w | w; exact Or.inl w; exact Or.inr ⟨w.1, trivial⟩)).tr (F2.mono (fun b j w => by rcases w with w | w; exact Or.inl w; exact Or.inr ⟨w.1, trivial⟩))
    refine over g2 _ y2.1 _ s2 F3 (by rw [f2, f4]) pg2 (by rw [et, pB_inr ey, pB_inr ey2]) (fun f hf => ?_) rfl
    have n2 := pRw_n b.1 hi F2
    rcases (show f = 0 ∨ f = 1 ∨ f = 2 ∨ f = 3 ∨ f = 4 ∨ f = 5 ∨ f = 6 ∨ f = 7 ∨ f = 8 ∨ f = 9 ∨ f = 10 ∨ f = 11 ∨ f = 12 by omega) with w | w | w | w | w | w | w | w | w | w | w | w | w <;> rw [w]
    · rw [n2 0 (by unfold s810; omega), v0]; rfl
    · rw [n2 1 (by unfold s810; omega), n 1 (by unfold s023; omega), row 1 (by omega)]; rfl
    · rw [n2 2 (by unfold s810; omega), v2]; rfl
    · rw [n2 3 (by unfold s810; omega), v3]; rfl
    · rw [n2 4 (by unfold s810; omega), n 4 (by unfold s023; omega), row 4 (by omega)]; rfl
    · rw [n2 5 (by unfold s810; omega), n 5 (by unfold s023; omega), row 5 (by omega)]; rfl
    · rw [n2 6 (by unfold s810; omega), n 6 (by unfold s023; omega), row 6 (by omega)]; rfl
    · rw [n2 7 (by unfold s810; omega), n 7 (by unfold s023; omega), row 7 (by omega)]; rfl
    · rw [v8]; rfl
    · rw [v9]; rfl
    · rw [v10]; rfl
    · rw [n2 11 (by unfold s810; omega), n 11 (by unfold s023; omega), row 11 (by omega)]; rfl
    · rw [n2 12 (by unfold s810; omega), n 12 (by unfold s023; omega), row 12 (by omega)]; rfl
  refine vc_X9_parseType_0 T.length K.length h hS hd ?_
  rw [b.2.1, ei, pa.2.2]
  refine ⟨b.1, ⟨by omega, by omega⟩, fun c => chk 4 2 0 (by omega) ?_, fun c => int (Or.inr c), fun c => chk 3 2 0 (by omega) ?_, fun c => int (Or.inl c), fun c => chk 2 1 0 (by omega) ?_, fun c => ?_, fun c1 c2 c3 c4 c5 c6 => ?_⟩
  · unfold pTy; rw [if_neg (by omega), if_neg (by omega), if_neg (by omega), if_neg (by omega), if_pos c]
  · unfold pTy; rw [if_neg (by omega), if_neg (by omega), if_neg (by omega), if_pos c]
  · unfold pTy; rw [if_neg (by omega), if_neg (by omega), if_pos c]
  · -- a structure
    have pe := pa.2.1
    have pl := pa.1
    refine vc_X9_parseStructure_0 T.length K.length h hS (by omega) ?_
    rw [b.2.1, ei, pe]
    refine ⟨fun c3 => ⟨b.1, ⟨by omega, by omega⟩, fun h2 e2 => ?_⟩, fun c3 => ?_⟩
    · have et : pTy t T (kTop K) K.length T.length p name cc cv = .inr (bl t (p + 1), (rw13 5 name 0 0 (kTop K) ((T.length : Int) + 1) cc cv 0 (-1) 0 (-1) (-1), false)) := by
        unfold pTy
        rw [if_neg (by omega), if_pos c, if_neg (by omega)]
      have er2 : pItm t T (kTop K) K.length p0 = .inr (bl t (p + 1), (rw13 5 name 0 0 (kTop K) ((T.length : Int) + 1) cc cv 0 (-1) 0 (-1) (-1), false)) := by rw [ep, pB_inr et]; rfl
      have w1 : pW t 1 (p0, (K, T)) (bl t (p + 1), (T.length :: K, T ++ [rw13 5 name 0 0 (kTop K) ((T.length : Int) + 1) cc cv 0 (-1) 0 (-1) (-1)])) := pW_1 ne (by rw [est, er2]; rfl)
      have F2 : zF4 (pRw a T.length (fun j => j = 0)) h h2 := by rw [e2]; exact Fs rfl
      have s2 := F2.Sh hS
      have x2 := pIx_F x F2 (by omega)
      have r2 : ∀ k, gI h2 211 k = gI h 211 k := fun k => by rw [e2, row211 b.1 hi]
      have n2 := pRw_n b.1 hi F2
      rw [r2, pe]
      refine ⟨by omega, sp_moveOn (p := p) (by omega) s2 x2.2.2.1 (tg_lt (by omega)) rfl (fun h5 s5 F5 pa5 => qV_i ⟨s5, by omega, ?_⟩)⟩
      obtain ⟨G5, f5⟩ := F34 F5
      have F5' : zF4 (pFA a) h h5 := (Fa hi F2).tr (Fp G5)
      have b5 := pBs_F b F5'
      have ll : (T ++ [rw13 5 name 0 0 (kTop K) ((T.length : Int) + 1) cc cv 0 (-1) 0 (-1) (-1)]).length = T.length + 1 := by rw [List.length_append]; rfl
      have row5 : ∀ f, f < 13 → gI h5 (a + 2 + T.length) f = (rw13 5 name 0 0 (kTop K) ((T.length : Int) + 1) cc cv 0 (-1) 0 (-1) (-1)).getD f 0 := fun f hf => by
        rw [G5.I _ _ (fun w => by have := w.1; omega)]
        by_cases q : f = 0
        · rw [q, e2, gI_sI, if_pos ⟨rfl, rfl⟩]; rfl
        · rw [n2 f q, row f hf]
          rcases (show f = 1 ∨ f = 2 ∨ f = 3 ∨ f = 4 ∨ f = 5 ∨ f = 6 ∨ f = 7 ∨ f = 8 ∨ f = 9 ∨ f = 10 ∨ f = 11 ∨ f = 12 by omega) with w | w | w | w | w | w | w | w | w | w | w | w <;> rw [w] <;> rfl
      have cf : pCfg h5 a t (bl t (p + 1), (T.length :: K, T ++ [rw13 5 name 0 0 (kTop K) ((T.length : Int) + 1) cc cv 0 (-1) 0 (-1) (-1)])) := by
        refine ⟨b5, ⟨?_, fun k hk f hf => ?_⟩, pa5, by rw [f5, r2, f0], by rw [ll]; omega⟩
        · show gI h5 a 1 = ((T ++ [_]).length : Int)
          rw [ll, G5.I _ _ (fun w => by have := w.1; omega), F2.I _ _ (by rintro (⟨w, _⟩ | ⟨w, _⟩) <;> omega), u]; omega
        · have hk' : k < T.length + 1 := by rw [← ll]; exact hk
          show gI h5 (a + 2 + k) f = ti (T ++ [_]) k f
          by_cases q : k = T.length
          · rw [q, row5 f hf, ti_new]
          · rw [G5.I _ _ (fun w => by have := w.1; omega), F2.I _ _ (by rintro (⟨w, _⟩ | ⟨w, _⟩) <;> omega), rows k (by omega) f hf, ti_app (by omega)]
      have el : (K.length : Int) + 1 = ((K.length + 1 : Nat) : Int) := by omega
      rw [el]
      refine (hB (by omega)) h5 (bl t (p + 1)) (T.length :: K) _ _ rfl s5 cf (fun h9 n9 c9 w9 ek9 cf9 s9 F9 kp9 t9 _ => qI_i ⟨s9, fun w => absurd w (by omega), fun _ => ?_⟩) (fun h9 f fl9 s9 F9 f9 => qI_i ⟨s9, fun _ => qI_i ⟨s9, fun _ => k0 h9 f (pFl_of w1 fl9) s9 (F5'.tr F9) f9, fun w => absurd rfl w⟩, fun w => absurd rfl w⟩)
      obtain ⟨p9, K9, T9⟩ := c9
      have ek9 : K9 = T.length :: K := ek9
      subst ek9
      have t9 : tg t p9 = 125 := t9 (by omega)
      obtain ⟨b9, ⟨u9, rows9⟩, pa9, f09, l9⟩ := cf9
      have l9 : T9.length ≤ 24 := l9
      have pa9 : pAt h9 t p9 := pa9
      have lt9 : T.length + 1 ≤ T9.length := by rw [← ll]; exact kp9.1
      have rw9 : ∀ f, ti T9 T.length f = (rw13 5 name 0 0 (kTop K) ((T.length : Int) + 1) cc cv 0 (-1) 0 (-1) (-1)).getD f 0 := fun f => by rw [kp9.2 T.length (by omega) f, ti_new]
      have ne9 : ¬ pEnd t (p9, (T.length :: K, T9)) := fun w => by have := w.1; cases this
      have stc : pStep t (p9, (T.length :: K, T9)) = pB (pClo t T9 T.length p9) (fun y => .inr (y.1, (K, y.2))) := by rw [pStep, if_pos t9]
      have q4 : ti T9 T.length 4 = kTop K := by rw [rw9]; rfl
      have w19 := pW_tr w1 w9
      refine sp_parseSign (by omega) s9 b9.2.2 pa9 (by omega) (fun h14 p14 e14 s14 F14 f14 pa14 => qI_i ⟨s14, fun w => absurd w (by omega), fun _ => ?_⟩) (fun h14 f e14 s14 F14 f14 => ?_)
      · have e14' : p14 = bl t (p9 + 1) := by unfold pSg at e14; rw [if_pos t9] at e14; exact (Sum.inr.inj e14).symm
        have F14' : zF4 (pFA a) h h14 := (F5'.tr F9).tr (Fp F14)
        have b14 := pBs_F b F14'
        have o14 : ∀ x j, x ≠ 211 → gI h14 x j = gI h9 x j := fun x j w => F14.I _ _ (fun w2 => w w2.1)
        have r14 : ∀ f, f < 13 → gI h14 (a + 2 + T.length) f = ti T9 T.length f := fun f hf => by rw [o14 _ _ (by omega)]; exact rows9 T.length (by show T.length < T9.length; omega) f hf
        have x14 : pIx h14 a t T9 T.length (kTop K) := ⟨b14.1, b14.2.1, b14.2.2, fun k hk f hf => by rw [o14 _ _ (by omega)]; exact rows9 k (by show k < T9.length; omega) f hf, by rw [r14 4 (by omega), q4], by rw [o14 _ _ (by omega), u9]; show (T.length : Int) < (T9.length : Int); omega, hi⟩
        refine qI_i ⟨s14, fun w => absurd w (by omega), fun _ => ?_⟩
        refine sp_parseCount (by omega) s14 x14 pa14 (by rw [r14 8 (by omega), rw9]; rfl) (by rw [r14 9 (by omega), rw9]; rfl) (by rw [r14 10 (by omega), rw9]; rfl) (fun g2 y2 ey2 s2' F2' f2' pg2 v8 v9 v10 => qI_i ⟨s2', fun w => absurd w (by omega), fun _ => k1 g2 s2' (F14'.tr (Fa hi F2')) ?_⟩) (fun g2 f ey2 s2' F2' f2' => qI_i ⟨s2', fun _ => k0 g2 f (pFl_of w19 (pFl_0 ne9 ?_)) s2' (F14'.tr (Fa hi F2')) f2', fun w => absurd rfl w⟩)
        · have n2' := pRw_n b.1 hi F2'
          refine ⟨pBs_F b14 (Fa hi F2'), by rw [f2', f14, f09], y2.1, tCl T9 T.length y2.2, pg2, ?_, fun k hk f hf hne => ?_, ?_, ⟨by rw [tCl_len]; show T.length ≤ _; omega, fun k hk f => ?_⟩, by rw [tCl_len]; show T.length < _; omega, by rw [tCl_len]; exact l9, fun p3 e3 => ⟨_, pW_tr w19 (pW_1 ne9 ?_)⟩, fun f e3 => pFl_of w19 (pFl_0 ne9 ?_)⟩
          · rw [tCl_len, F2'.I _ _ (by rintro (⟨w, _⟩ | ⟨w, _⟩) <;> omega), o14 _ _ (by omega), u9]
          · rw [tCl_len] at hk
            by_cases q : k = T.length
            · rw [q, ti_cl (by omega)]
              have r2' : ∀ j, ¬ s810 j → j < 13 → gI g2 (a + 2 + T.length) j = ti T9 T.length j := fun j hj hj2 => by rw [n2' j hj, r14 j hj2]
              rcases (show f = 0 ∨ f = 1 ∨ f = 2 ∨ f = 3 ∨ f = 4 ∨ f = 6 ∨ f = 7 ∨ f = 8 ∨ f = 9 ∨ f = 10 ∨ f = 11 ∨ f = 12 by omega) with w | w | w | w | w | w | w | w | w | w | w | w <;> rw [w]
              · rw [r2' 0 (by unfold s810; omega) (by omega)]; rfl
              · rw [r2' 1 (by unfold s810; omega) (by omega)]; rfl
              · rw [r2' 2 (by unfold s810; omega) (by omega)]; rfl
              · rw [r2' 3 (by unfold s810; omega) (by omega)]; rfl
              · rw [r2' 4 (by unfold s810; omega) (by omega)]; rfl
              · rw [r2' 6 (by unfold s810; omega) (by omega)]; rfl
              · rw [r2' 7 (by unfold s810; omega) (by omega)]; rfl
              · rw [v8]; rfl
              · rw [v9]; rfl
              · rw [v10]; rfl
              · rw [r2' 11 (by unfold s810; omega) (by omega)]; rfl
              · rw [r2' 12 (by unfold s810; omega) (by omega)]; rfl
            · rw [ti_cl_ne q, F2'.I _ _ (by rintro (⟨w, _⟩ | ⟨w, _⟩) <;> omega), o14 _ _ (by omega)]
              exact rows9 k hk f hf
          · show ti (tCl T9 T.length y2.2) T.length 5 = _
            rw [ti_cl (by omega), tCl_len]; rfl
          · have hk' : k < T.length := hk
            rw [ti_cl_ne (by omega), kp9.2 k (by omega) f, ti_app hk']
          · rw [stc]
            unfold pClo
            rw [q4, ← e14', pB_inr ey2, pB_inr e3]
            rfl
          · rw [stc]
            unfold pClo
            rw [q4, ← e14', pB_inr ey2, pB_inl e3]
            rfl
        · rw [stc]
          unfold pClo
          rw [q4, ← e14', pB_inl ey2]
          rfl
      · unfold pSg at e14
        rw [if_pos t9] at e14
        cases e14
    · refine sp_refuse hS (fun h' s' F e4 => qI_i ⟨s', Or.inl rfl, qI_i ⟨s', fun _ => k0 h' p (bad p ?_) s' (Fp F) e4, fun w => absurd rfl w⟩⟩)
      unfold pTy
      rw [if_neg (by omega), if_pos c, if_pos (by omega)]
  · rw [pa.2.1]
    refine sp_refuse hS (fun h' s' F e4 => qI_i ⟨s', Or.inl rfl, k0 h' p (bad p ?_) s' (Fp F) e4⟩)
    unfold pTy
    rw [if_neg (by omega), if_neg (by omega), if_neg (by omega), if_neg (by omega), if_neg (by omega)]
end XPB
