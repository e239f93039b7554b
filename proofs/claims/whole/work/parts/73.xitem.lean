/-! reading a template: the kinds of items, by the program -/
def s023 : Nat → Prop := fun j => j = 0 ∨ j = 2 ∨ j = 3
def s02r : Nat → Prop := fun j => j = 0 ∨ j = 2 ∨ j = 11 ∨ j = 12
def s67 : Nat → Prop := fun j => j = 6 ∨ j = 7
def s010 : Nat → Prop := fun j => j = 0 ∨ j = 10
def s1 : Nat → Prop := fun j => j = 1
section XPK
variable {G : zG} {d : Nat} {Q : Option zV → zHp → Prop} {h : zHp} {t : List Int} {T : List (List Int)} {a i : Nat} {q : Int}
theorem pAt_F {h' : zHp} {p : Nat} (e : ∀ j, gI h' 211 j = gI h 211 j) (x : pAt h t p) : pAt h' t p := ⟨x.1, by rw [e]; exact x.2.1, by rw [e]; exact x.2.2⟩
theorem row211 {j : Nat} {z : Int} (x : zT 369 a = (108, 2)) (hi : i < 24) (k : Nat) : gI (sI h (a + 2 + i) j z) 211 k = gI h 211 k := by
  have la := ztmp x
  rw [gI_sI, if_neg (by omega)]
theorem sp_parseInt {p : Nat} (hd : 2 ≤ d) (hS : zSh h) (x : pIx h a t T i q) (ha : pAt h t p) (hp : p < t.length)
    (k1 : ∀ h' y, pInt t p = .inr y → zSh h' → zF4 (pRw a i s023) h h' → gI h' 211 4 = gI h 211 4 → pAt h' t y.1 → gI h' (a + 2 + i) 0 = (if tg t p = 105 then 1 else 0) → gI h' (a + 2 + i) 2 = y.2.1 → gI h' (a + 2 + i) 3 = y.2.2 → Q (some (vI 1)) h')
    (k0 : ∀ h' f, pInt t p = .inl f → zSh h' → zF4 (pRw a i s023) h h' → gI h' 211 4 = (f : Int) → Q (some (vI 0)) h') : wpN G d M_X9_parseInteger 0 (zar 0 [vR 211, vR (a + 2 + i)]) [] h Q := by
  have la := ztmp x.1
  have hi24 := x.2.2.2.2.2.2
  have l := pTx_len x.2.2.1
  have a1 := ha.1
  have a2 := ha.2.1
  have a3 := ha.2.2
  have body : ∀ h2 : zHp, h2 = sI h (a + 2 + i) 0 (if tg t p = 105 then 1 else 0) → xI1 G d Q (a + 2 + i) h2 := by
    intro h2 e2
    have F2 : zF4 (pRw a i s023) h h2 := by rw [e2]; exact Fs (Or.inl rfl)
    have s2 := F2.Sh hS
    have x2 := pIx_F x F2 (by unfold s023; omega)
    have r2 : ∀ k, gI h2 211 k = gI h 211 k := fun k => by rw [e2, row211 x.1 hi24]
    have pa2 := pAt_F r2 ha
    unfold xI1
    rw [r2, a2]
    refine ⟨by omega, sp_moveOn (p := p) (by omega) s2 x2.2.2.1 hp rfl (fun h5 s5 F5 pa5 => qV_i ⟨s5, ?_⟩)⟩
    obtain ⟨G5, f5⟩ := F34 F5
    have x5 := pIx_34 x2 G5
    have b1 := pa5.1
    rw [pa5.2.2, pa5.2.1]
    have size : (tg t (bl t (p + 1)) = 49 ∨ tg t (bl t (p + 1)) = 50 ∨ tg t (bl t (p + 1)) = 52) → xI2 G d Q (a + 2 + i) h5 := by
      intro hz
      unfold xI2
      rw [pa5.2.2]
      refine ⟨by omega, fun h9 e9 => ?_⟩
      have F9 : zF4 (pRw a i s023) h5 h9 := by rw [e9]; exact Fs (Or.inr (Or.inl rfl))
      have s9 := F9.Sh s5
      have x9 := pIx_F x5 F9 (by unfold s023; omega)
      have r9 : ∀ k, gI h9 211 k = gI h5 211 k := fun k => by rw [e9, row211 x.1 hi24]
      rw [r9, pa5.2.1]
      refine ⟨by omega, sp_moveOn (p := bl t (p + 1)) (by omega) s9 x9.2.2.1 (tg_lt (by omega)) rfl (fun h12 s12 F12 pa12 => qV_i ⟨s12, ?_⟩)⟩
      obtain ⟨G12, f12⟩ := F34 F12
      have x12 := pIx_34 x9 G12
      have b2 := pa12.1
      have FF : zF4 (pRw a i s023) h h12 := ((F2.tr (Frw G5)).tr F9).tr (Frw G12)
      have v0 : gI h12 (a + 2 + i) 0 = (if tg t p = 105 then 1 else 0) := by
        rw [G12.I _ _ (fun w => by have := w.1; omega), e9, gI_sI, if_neg (by omega), G5.I _ _ (fun w => by have := w.1; omega), e2, gI_sI, if_pos ⟨rfl, rfl⟩]
      have v2 : gI h12 (a + 2 + i) 2 = tg t (bl t (p + 1)) - 48 := by
        rw [G12.I _ _ (fun w => by have := w.1; omega), e9, gI_sI, if_pos ⟨rfl, rfl⟩]
      have v4 : gI h12 211 4 = gI h 211 4 := by rw [f12, r9, f5, r2]
      rw [pa12.2.2]
      refine ⟨fun c => fun h16 e16 => ?_, fun c => fun h23 e23 => ?_⟩
      · have F16 : zF4 (pRw a i s023) h12 h16 := by rw [e16]; exact Fs (Or.inr (Or.inr rfl))
        have w3 : gI h16 (a + 2 + i) 3 = 0 := by rw [e16, gI_sI, if_pos ⟨rfl, rfl⟩]
        have r16 : ∀ k, gI h16 211 k = gI h12 211 k := fun k => by rw [e16, row211 x.1 hi24]
        rw [w3]
        refine ⟨fun _ => k1 h16 (bl t (bl t (p + 1) + 1), (tg t (bl t (p + 1)) - 48, 0)) ?_ (F16.Sh s12) (FF.tr F16) (by rw [r16, v4]) (pAt_F r16 pa12) ?_ ?_ w3, fun w => absurd rfl w⟩
        · unfold pInt; rw [if_pos hz, if_neg c]
        · rw [e16, gI_sI, if_neg (by omega), v0]
        · rw [e16, gI_sI, if_neg (by omega), v2]
      · have F23 : zF4 (pRw a i s023) h12 h23 := by rw [e23]; exact Fs (Or.inr (Or.inr rfl))
        have w3 : gI h23 (a + 2 + i) 3 = 1 := by rw [e23, gI_sI, if_pos ⟨rfl, rfl⟩]
        have r23 : ∀ k, gI h23 211 k = gI h12 211 k := fun k => by rw [e23, row211 x.1 hi24]
        rw [w3, r23, pa12.2.1]
        refine ⟨fun w => by omega, fun _ => ⟨by omega, sp_moveOn (p := bl t (bl t (p + 1) + 1)) (by omega) (F23.Sh s12) (pIx_F x12 F23 (by unfold s023; omega)).2.2.1 (tg_lt (by omega)) rfl (fun h27 s27 F27 pa27 => qV_i ⟨s27, ?_⟩)⟩⟩
        obtain ⟨G27, f27⟩ := F34 F27
        refine k1 h27 (bl t (bl t (bl t (p + 1) + 1) + 1), (tg t (bl t (p + 1)) - 48, 1)) ?_ s27 ((FF.tr F23).tr (Frw G27)) (by rw [f27, r23, v4]) pa27 ?_ ?_ ?_
        · unfold pInt; rw [if_pos hz, if_pos c]
        · rw [G27.I _ _ (fun w => by have := w.1; omega), e23, gI_sI, if_neg (by omega), v0]
        · rw [G27.I _ _ (fun w => by have := w.1; omega), e23, gI_sI, if_neg (by omega), v2]
        · rw [G27.I _ _ (fun w => by have := w.1; omega), w3]
    have bad : ¬ (tg t (bl t (p + 1)) = 49 ∨ tg t (bl t (p + 1)) = 50 ∨ tg t (bl t (p + 1)) = 52) → wpN G (d - 1) M_X9_refuse 0 (zar 0 [vR 211, vI ((bl t (p + 1) : Nat) : Int)]) [] h5 (qI (fun z74 h75 => zSh h75 ∧ ((z74 = 0 ∨ z74 = 1) ∧ Q (some (vI z74)) h75))) := fun hz =>
      sp_refuse s5 (fun h' s' F e4 => qI_i ⟨s', Or.inl rfl, k0 h' (bl t (p + 1)) (by unfold pInt; rw [if_neg hz]) s' ((F2.tr (Frw G5)).tr (Frw F)) e4⟩)
    have sz := fun hz => size hz
    unfold xI2 at sz
    rw [pa5.2.2] at sz
    exact ⟨fun c => sz (Or.inl c), fun c => ⟨fun c2 => sz (Or.inr (Or.inl c2)), fun c2 => ⟨fun c3 => sz (Or.inr (Or.inr c3)), fun c3 => bad (by omega)⟩⟩⟩
  refine vc_X9_parseInteger_0 (a + 2 + i) (zitm x.1 hi24) h hS hd ?_
  rw [a3]
  exact ⟨fun c h2 e2 => body h2 (by rw [if_neg c]; exact e2), fun c h2 e2 => body h2 (by rw [if_pos c]; exact e2)⟩
theorem sp_parseCheck {p : Nat} {kind size : Int} (hd : 3 ≤ d) (hS : zSh h) (x : pIx h a t T i q) (ha : pAt h t p) (hp : p < t.length)
    (k1 : ∀ h' y, pChk t T q i p = .inr y → zSh h' → zF4 (pRw a i s02r) h h' → gI h' 211 4 = gI h 211 4 → pAt h' t y.1 → gI h' (a + 2 + i) 0 = kind → gI h' (a + 2 + i) 2 = size → gI h' (a + 2 + i) 11 = y.2.1 → gI h' (a + 2 + i) 12 = y.2.2 → Q (some (vI 1)) h')
    (k0 : ∀ h' f, pChk t T q i p = .inl f → zSh h' → zF4 (pRw a i s02r) h h' → gI h' 211 4 = (f : Int) → Q (some (vI 0)) h') : wpN G d M_X9_parseCheck 0 (zar 0 [vR 211, vI (i : Int), vI kind, vI size]) [] h Q := by
  have la := ztmp x.1
  have hi24 := x.2.2.2.2.2.2
  have l := pTx_len x.2.2.1
  have a1 := ha.1
  have a2 := ha.2.1
  have ei : (i : Int).toNat = i := by omega
  refine vc_X9_parseCheck_0 i kind size h hS hd ?_
  rw [x.2.1, ei]
  refine ⟨x.1, ⟨by omega, by omega⟩, fun h1 e1 h3 e3 => ?_⟩
  have F3 : zF4 (pRw a i s02r) h h3 := by rw [e3, e1]; exact (Fs (Or.inl rfl)).tr (Fs (Or.inr (Or.inl rfl)))
  have r3 : ∀ k, gI h3 211 k = gI h 211 k := fun k => by rw [e3, row211 x.1 hi24, e1, row211 x.1 hi24]
  have s3 := F3.Sh hS
  have x3 := pIx_F x F3 (by unfold s02r; omega)
  have u0 : gI h3 (a + 2 + i) 0 = kind ∧ gI h3 (a + 2 + i) 2 = size := ⟨by rw [e3, gI_sI, if_neg (by omega), e1, gI_sI, if_pos ⟨rfl, rfl⟩], by rw [e3, gI_sI, if_pos ⟨rfl, rfl⟩]⟩
  rw [r3, a2]
  refine ⟨by omega, sp_moveOn (p := p) (by omega) s3 x3.2.2.1 hp rfl (fun h6 s6 F6 pa6 => qV_i ⟨s6, ?_⟩)⟩
  obtain ⟨G6, f6⟩ := F34 F6
  have x6 := pIx_34 x3 G6
  have row34 : ∀ {g g' : zHp}, zF4 p34 g g' → ∀ j, gI g' (a + 2 + i) j = gI g (a + 2 + i) j := fun F j => F.I _ _ (fun w => by have := w.1; omega)
  refine sp_parseSign (by omega) s6 x6.2.2.1 pa6 (by omega) (fun h10 p1 e10 s10 F10 f10 pa10 => qI_i ⟨s10, fun _ => ?_, fun w => absurd w (by omega)⟩) (fun h10 f e10 s10 F10 f10 => qI_i ⟨s10, fun w => absurd rfl w, fun _ => k0 h10 f (by unfold pChk; rw [pB_inl e10]) s10 ((F3.tr (Frw G6)).tr (Frw F10)) f10⟩)
  have x10 := pIx_34 x6 F10
  have FA : zF4 (pRw a i s02r) h h10 := (F3.tr (Frw G6)).tr (Frw F10)
  refine sp_parseSib (by omega) s10 x10 pa10 (by omega) (fun h15 y ey s15 F15 f15 pa15 ny => qI_i ⟨s15, fun h18 e18 => ?_⟩) (fun h15 f ey s15 F15 f15 => qI_i ⟨s15, fun h18 e18 => ?_⟩)
  · have F18 : zF4 (pRw a i s02r) h15 h18 := by rw [e18]; exact Fs (Or.inr (Or.inr (Or.inl rfl)))
    have x18 := pIx_F (pIx_34 x10 F15) F18 (by unfold s02r; omega)
    have r18 : ∀ k, gI h18 211 k = gI h15 211 k := fun k => by rw [e18, row211 x.1 hi24]
    have v11 : gI h18 (a + 2 + i) 11 = y.2 := by rw [e18, gI_sI, if_pos ⟨rfl, rfl⟩]
    rw [v11]
    refine ⟨fun w => by omega, fun _ => sp_parseSign (by omega) (F18.Sh s15) x18.2.2.1 (pAt_F r18 pa15) (by omega) (fun h22 p3 e22 s22 F22 f22 pa22 => qI_i ⟨s22, fun _ => ?_, fun w => absurd w (by omega)⟩) (fun h22 f e22 s22 F22 f22 => qI_i ⟨s22, fun w => absurd rfl w, fun _ => k0 h22 f (by unfold pChk; rw [pB_inr e10, pB_inr ey, pB_inl e22]) s22 (((FA.tr (Frw F15)).tr F18).tr (Frw F22)) f22⟩)⟩
    have x22 := pIx_34 x18 F22
    rw [row34 F22, v11]
    refine sp_parseSib (by omega) s22 x22 pa22 ny (fun h27 y2 ey2 s27 F27 f27 pa27 ny2 => qI_i ⟨s27, fun h30 e30 => ?_⟩) (fun h27 f ey2 s27 F27 f27 => qI_i ⟨s27, fun h30 e30 => ?_⟩)
    · have F30 : zF4 (pRw a i s02r) h27 h30 := by rw [e30]; exact Fs (Or.inr (Or.inr (Or.inr rfl)))
      have x30 := pIx_F (pIx_34 x22 F27) F30 (by unfold s02r; omega)
      have r30 : ∀ k, gI h30 211 k = gI h27 211 k := fun k => by rw [e30, row211 x.1 hi24]
      have v12 : gI h30 (a + 2 + i) 12 = y2.2 := by rw [e30, gI_sI, if_pos ⟨rfl, rfl⟩]
      have FB : zF4 (pRw a i s02r) h h30 := ((((FA.tr (Frw F15)).tr F18).tr (Frw F22)).tr (Frw F27)).tr F30
      rw [v12]
      refine ⟨fun w => by omega, fun _ => sp_parseSign (by omega) (F30.Sh s27) x30.2.2.1 (pAt_F r30 pa27) (by omega) (fun h34 p5 e34 s34 F34' f34 pa34 => qI_i ⟨s34, fun w => absurd w (by omega), fun _ => ?_⟩) (fun h34 f e34 s34 F34' f34 => qI_i ⟨s34, fun _ => k0 h34 f (by unfold pChk; rw [pB_inr e10, pB_inr ey, pB_inr e22, pB_inr ey2, pB_inl e34]) s34 (FB.tr (Frw F34')) f34, fun w => absurd rfl w⟩)⟩
      have old : ∀ j, j = 0 ∨ j = 2 → gI h34 (a + 2 + i) j = gI h3 (a + 2 + i) j := fun j hj => by
        rw [row34 F34', e30, gI_sI, if_neg (by omega), row34 F27, row34 F22, e18, gI_sI, if_neg (by omega), row34 F15, row34 F10, row34 G6]
      refine k1 h34 (p5, (y.2, y2.2)) (by unfold pChk; rw [pB_inr e10, pB_inr ey, pB_inr e22, pB_inr ey2, pB_inr e34]) s34 (FB.tr (Frw F34')) ?_ pa34 ?_ ?_ ?_ ?_
      · rw [f34, r30, f27, f22, r18, f15, f10, f6, r3]
      · rw [old 0 (Or.inl rfl), u0.1]
      · rw [old 2 (Or.inr rfl), u0.2]
      · rw [row34 F34', e30, gI_sI, if_neg (by omega), row34 F27, row34 F22, v11]
      · rw [row34 F34', v12]
    · have F30 : zF4 (pRw a i s02r) h27 h30 := by rw [e30]; exact Fs (Or.inr (Or.inr (Or.inr rfl)))
      have v12 : gI h30 (a + 2 + i) 12 = -1 := by rw [e30, gI_sI, if_pos ⟨rfl, rfl⟩]
      rw [v12]
      refine ⟨fun _ => k0 h30 f (by unfold pChk; rw [pB_inr e10, pB_inr ey, pB_inr e22, pB_inl ey2]) (F30.Sh s27) (((((FA.tr (Frw F15)).tr F18).tr (Frw F22)).tr (Frw F27)).tr F30) ?_, fun w => absurd rfl w⟩
      rw [e30, row211 x.1 hi24, f27]
  · have F18 : zF4 (pRw a i s02r) h15 h18 := by rw [e18]; exact Fs (Or.inr (Or.inr (Or.inl rfl)))
    have v11 : gI h18 (a + 2 + i) 11 = -1 := by rw [e18, gI_sI, if_pos ⟨rfl, rfl⟩]
    rw [v11]
    refine ⟨fun _ => k0 h18 f (by unfold pChk; rw [pB_inr e10, pB_inl ey]) (F18.Sh s15) ((FA.tr (Frw F15)).tr F18) ?_, fun w => absurd rfl w⟩
    rw [e18, row211 x.1 hi24, f15]
theorem sp_parseCond {p : Nat} (hd : 3 ≤ d) (hS : zSh h) (x : pIx h a t T i q) (ha : pAt h t p) (hc : tg t p = 63)
    (k1 : ∀ h' y, pCd t T q i p = .inr y → zSh h' → zF4 (pRw a i s67) h h' → gI h' 211 4 = gI h 211 4 → pAt h' t y.1 → gI h' (a + 2 + i) 6 = y.2.1 → gI h' (a + 2 + i) 7 = y.2.2 → Q (some (vI 1)) h')
    (k0 : ∀ h' f, pCd t T q i p = .inl f → zSh h' → zF4 (pRw a i s67) h h' → gI h' 211 4 = (f : Int) → Q (some (vI 0)) h') : wpN G d M_X9_parseCondition 0 (zar 0 [vR 211, vI (i : Int)]) [] h Q := by
  have la := ztmp x.1
  have hi24 := x.2.2.2.2.2.2
  have l := pTx_len x.2.2.1
  have a1 := ha.1
  have a2 := ha.2.1
  have ei : (i : Int).toNat = i := by omega
  have ec : pCd t T q i p = pB (pRf t T q i (bl t (p + 1))) (fun x => pB (pSg t 61 x.1) (fun p2 => pB (pNu t p2) (fun y => .inr (y.1, (x.2, y.2))))) := by unfold pCd; rw [if_pos hc]
  refine vc_X9_parseCondition_0 i h hS hd ?_
  rw [a2]
  refine ⟨by omega, sp_moveOn (p := p) (by omega) hS x.2.2.1 (tg_lt (by omega)) rfl (fun h2 s2 F2 pa2 => qV_i ⟨s2, ?_⟩)⟩
  obtain ⟨G2, f2⟩ := F34 F2
  have x2 := pIx_34 x G2
  refine sp_parseRef (by omega) s2 x2 pa2 (fun h6 y ey s6 F6 f6 pa6 ny => qI_i ⟨s6, fun w => by omega, fun _ => ?_⟩) (fun h6 f ey s6 F6 f6 => qI_i ⟨s6, fun _ => k0 h6 f (by rw [ec, pB_inl ey]) s6 (Frw (G2.tr F6)) f6, fun w => absurd rfl w⟩)
  have x6 := pIx_34 x2 F6
  refine sp_parseSign (by omega) s6 x6.2.2.1 pa6 (by omega) (fun h11 p2 e11 s11 F11 f11 pa11 => qI_i ⟨s11, fun _ => ?_, fun w => absurd w (by omega)⟩) (fun h11 f e11 s11 F11 f11 => qI_i ⟨s11, fun w => absurd rfl w, fun _ => k0 h11 f (by rw [ec, pB_inr ey, pB_inl e11]) s11 (Frw ((G2.tr F6).tr F11)) f11⟩)
  have x11 := pIx_34 x6 F11
  refine sp_parseNumber (by omega) s11 x11.2.2.1 pa11 (fun h16 v ev s16 F16 f16 pa16 => qI_i ⟨s16, ?_⟩) (fun h16 f ev s16 F16 f16 => qI_i ⟨s16, ?_⟩)
  · have x16 := pIx_34 x11 F16
    rw [x16.2.1, ei]
    refine ⟨x.1, ⟨by omega, by omega⟩, fun h19 e19 => ?_⟩
    have g19 : gR h19 211 1 = a := by rw [e19]; exact x16.2.1
    rw [g19]
    refine ⟨x.1, ⟨by omega, by omega⟩, fun h21 e21 => ?_⟩
    have F21 : zF4 (pRw a i s67) h h21 := by
      rw [e21, e19]
      exact ((Frw (((G2.tr F6).tr F11).tr F16)).tr (Fs (Or.inl rfl))).tr (Fs (Or.inr rfl))
    have nv := (pNu_ok ev).1
    have r21 : ∀ k, gI h21 211 k = gI h16 211 k := fun k => by rw [e21, row211 x.1 hi24, e19, row211 x.1 hi24]
    refine ⟨fun w => by omega, fun _ => k1 h21 (v.1, (y.2, v.2)) (by rw [ec, pB_inr ey, pB_inr e11, pB_inr ev]) (F21.Sh hS) F21 (by rw [r21, f16, f11, f6, f2]) (pAt_F r21 pa16) ?_ ?_⟩
    · rw [e21, gI_sI, if_neg (by omega), e19, gI_sI, if_pos ⟨rfl, rfl⟩]
    · rw [e21, gI_sI, if_pos ⟨rfl, rfl⟩]
  · have x16 := pIx_34 x11 F16
    rw [x16.2.1, ei]
    refine ⟨x.1, ⟨by omega, by omega⟩, fun h19 e19 => ?_⟩
    have g19 : gR h19 211 1 = a := by rw [e19]; exact x16.2.1
    rw [g19]
    refine ⟨x.1, ⟨by omega, by omega⟩, fun h21 e21 => ?_⟩
    have F21 : zF4 (pRw a i s67) h h21 := by
      rw [e21, e19]
      exact ((Frw (((G2.tr F6).tr F11).tr F16)).tr (Fs (Or.inl rfl))).tr (Fs (Or.inr rfl))
    refine ⟨fun _ => k0 h21 f (by rw [ec, pB_inr ey, pB_inr e11, pB_inl ev]) (F21.Sh hS) F21 ?_, fun w => absurd rfl w⟩
    rw [e21, row211 x.1 hi24, e19, row211 x.1 hi24, f16]
theorem sp_parseGap {p : Nat} {c v : Int} (hd : 3 ≤ d) (hS : zSh h) (x : pIx h a t T i q) (ha : pAt h t p) (hp : tg t p = 46 ∨ tg t p = 64)
    (k1 : ∀ h' p' n, pGap t q i p c v = .inr (p', (rw13 (if tg t p = 64 then 7 else 6) (-1) 0 0 q ((i : Int) + 1) c v 0 (-1) n (-1) (-1), true)) → zSh h' → zF4 (pRw a i s010) h h' → gI h' 211 4 = gI h 211 4 → pAt h' t p' → gI h' (a + 2 + i) 0 = (if tg t p = 64 then 7 else 6) → gI h' (a + 2 + i) 10 = n → Q (some (vI 1)) h')
    (k0 : ∀ h' f, pGap t q i p c v = .inl f → zSh h' → zF4 (pRw a i s010) h h' → gI h' 211 4 = (f : Int) → Q (some (vI 0)) h') : wpN G d M_X9_parseGap 0 (zar 0 [vR 211, vR (a + 2 + i)]) [] h Q := by
  have la := ztmp x.1
  have hi24 := x.2.2.2.2.2.2
  have l := pTx_len x.2.2.1
  have a1 := ha.1
  have a2 := ha.2.1
  have body : ∀ h2 : zHp, h2 = sI h (a + 2 + i) 0 (if tg t p = 64 then 7 else 6) → ((-2147483648 ≤ (gI h2 211 2) + 1 ∧ (gI h2 211 2) + 1 ≤ 2147483647) ∧ (wpN G (d - 1) M_X9_moveTo 0 (zar 0 [vR 211, vI ((gI h2 211 2) + 1)]) [] h2 (qV (fun h5 => zSh h5 ∧ (∀ x8 : Int, x8 = (gI h5 211 2) → (wpN G (d - 1) M_X9_parseNumber 0 (zar 0 [vR 211]) [] h5 (qI (fun z10 h11 => zSh h11 ∧ (∀ h14 : zHp, h14 = sI h11 (a + 2 + i) 10 z10 → (((gI h14 (a + 2 + i) 10) ≠ 0 → (((gI h14 (a + 2 + i) 10) = (-1) → Q (some (vI 0)) h14) ∧ ((gI h14 (a + 2 + i) 10) ≠ (-1) → Q (some (vI 1)) h14))) ∧ ((gI h14 (a + 2 + i) 10) = 0 → (((gI h14 (a + 2 + i) 0) ≠ 7 → (((gI h14 (a + 2 + i) 10) = (-1) → Q (some (vI 0)) h14) ∧ ((gI h14 (a + 2 + i) 10) ≠ (-1) → Q (some (vI 1)) h14))) ∧ ((gI h14 (a + 2 + i) 0) = 7 → (wpN G (d - 1) M_X9_refuse 0 (zar 0 [vR 211, vI x8]) [] h14 (qI (fun z20 h21 => zSh h21 ∧ ((z20 = 0 ∨ z20 = 1) ∧ Q (some (vI z20)) h21))))))))))))))))) := by
    intro h2 e2
    have F2 : zF4 (pRw a i s010) h h2 := by rw [e2]; exact Fs (Or.inl rfl)
    have s2 := F2.Sh hS
    have x2 := pIx_F x F2 (by unfold s010; omega)
    have r2 : ∀ k, gI h2 211 k = gI h 211 k := fun k => by rw [e2, row211 x.1 hi24]
    rw [r2, a2]
    refine ⟨by omega, sp_moveOn (p := p) (by omega) s2 x2.2.2.1 (tg_lt (by omega)) rfl (fun h5 s5 F5 pa5 => qV_i ⟨s5, fun x8 e8 => ?_⟩)⟩
    obtain ⟨G5, f5⟩ := F34 F5
    have x5 := pIx_34 x2 G5
    have w0 : ∀ {g : zHp}, zF4 p34 h5 g → gI g (a + 2 + i) 0 = (if tg t p = 64 then 7 else 6) := fun F => by rw [F.I _ _ (fun w => by have := w.1; omega), G5.I _ _ (fun w => by have := w.1; omega), e2, gI_sI, if_pos ⟨rfl, rfl⟩]
    refine sp_parseNumber (by omega) s5 x5.2.2.1 pa5 (fun h11 y ey s11 F11 f11 pa11 => qI_i ⟨s11, fun h14 e14 => ?_⟩) (fun h11 f ey s11 F11 f11 => qI_i ⟨s11, fun h14 e14 => ?_⟩)
    · have F14 : zF4 (pRw a i s010) h h14 := by rw [e14]; exact (F2.tr (Frw (G5.tr F11))).tr (Fs (Or.inr rfl))
      have v10 : gI h14 (a + 2 + i) 10 = y.2 := by rw [e14, gI_sI, if_pos ⟨rfl, rfl⟩]
      have v0 : gI h14 (a + 2 + i) 0 = (if tg t p = 64 then 7 else 6) := by rw [e14, gI_sI, if_neg (by omega), w0 F11]
      have r14 : ∀ k, gI h14 211 k = gI h11 211 k := fun k => by rw [e14, row211 x.1 hi24]
      have nv := (pNu_ok ey).1
      have fine : ¬ (tg t p = 64 ∧ y.2 = 0) → Q (some (vI 1)) h14 := fun nb => by
        refine k1 h14 y.1 y.2 ?_ (F14.Sh hS) F14 (by rw [r14, f11, f5, r2]) (pAt_F r14 pa11) v0 v10
        unfold pGap
        rw [pB_inr ey, if_neg nb]
      rw [v10, v0]
      refine ⟨fun w => ⟨fun w2 => by omega, fun _ => fine (fun z => w z.2)⟩, fun w => ⟨fun w2 => ⟨fun w3 => by omega, fun _ => fine (fun z => by rw [if_pos z.1] at w2; exact w2 rfl)⟩, fun w2 => ?_⟩⟩
      have c64 : tg t p = 64 := by
        by_cases z : tg t p = 64
        · exact z
        · rw [if_neg z] at w2; omega
      refine sp_refuse (F14.Sh hS) (fun h' s' F e4 => qI_i ⟨s', Or.inl rfl, k0 h' (bl t (p + 1)) ?_ s' (F14.tr (Frw F)) (by rw [e4, e8, pa5.2.1])⟩)
      unfold pGap
      rw [pB_inr ey, if_pos ⟨c64, w⟩]
    · have F14 : zF4 (pRw a i s010) h h14 := by rw [e14]; exact (F2.tr (Frw (G5.tr F11))).tr (Fs (Or.inr rfl))
      have v10 : gI h14 (a + 2 + i) 10 = -1 := by rw [e14, gI_sI, if_pos ⟨rfl, rfl⟩]
      rw [v10]
      refine ⟨fun _ => ⟨fun _ => k0 h14 f (by unfold pGap; rw [pB_inl ey]) (F14.Sh hS) F14 ?_, fun w => absurd rfl w⟩, fun w => by omega⟩
      rw [e14, row211 x.1 hi24, f11]
  refine vc_X9_parseGap_0 (a + 2 + i) (zitm x.1 hi24) h hS hd ?_
  rw [ha.2.2]
  exact ⟨fun c h2 e2 => body h2 (by rw [if_neg c]; exact e2), fun c h2 e2 => body h2 (by rw [if_pos c]; exact e2)⟩
theorem sp_parseName {p : Nat} (hd : 3 ≤ d) (hS : zSh h) (x : pIx h a t T i q) (ha : pAt h t p)
    (k1 : ∀ h' p', pNm t T q i p = .inr p' → zSh h' → zF4 (pRw a i s1) h h' → gI h' 211 4 = gI h 211 4 → pAt h' t p' → gI h' (a + 2 + i) 1 = tg t p → Q (some (vI 1)) h')
    (k0 : ∀ h' f, pNm t T q i p = .inl f → zSh h' → zF4 (pRw a i s1) h h' → gI h' 211 4 = (f : Int) → Q (some (vI 0)) h') : wpN G d M_X9_parseName 0 (zar 0 [vR 211, vI (i : Int)]) [] h Q := by
  have la := ztmp x.1
  have hi24 := x.2.2.2.2.2.2
  have l := pTx_len x.2.2.1
  have a1 := ha.1
  have a2 := ha.2.1
  have a3 := ha.2.2
  have ei : (i : Int).toNat = i := by omega
  have rg := tSb_rng (T := T) (q := q) (c := tg t p) i
  have bad : ¬ (isNmB (tg t p) = true ∧ tSb T q i (tg t p) < 0) → wpN G (d - 1) M_X9_refuse 0 (zar 0 [vR 211, vI (gI h 211 2)]) [] h (qI (fun z6 h7 => zSh h7 ∧ ((z6 = 0 ∨ z6 = 1) ∧ Q (some (vI z6)) h7))) := fun nb => by
    rw [a2]
    exact sp_refuse hS (fun h' s' F e4 => qI_i ⟨s', Or.inl rfl, k0 h' p (by unfold pNm; rw [if_neg nb]) s' (Frw F) e4⟩)
  refine vc_X9_parseName_0 i h hS hd ?_
  rw [a3]
  refine sp_isName hS (fun r hr => qI_i ⟨hS, fun z => bad ?_, fun z => ?_⟩)
  · rintro ⟨w, _⟩
    rcases hr with ⟨w2, _⟩ | ⟨_, w2⟩
    · omega
    · rw [w2] at w; cases w
  · have nm : isNmB (tg t p) = true := by
      rcases hr with ⟨_, w⟩ | ⟨w, _⟩
      · exact w
      · exact absurd w z
    have c97 := (isNmB_iff.mp nm).1
    rw [x.2.1, a3]
    refine ⟨x.1, sp_sibling hS x (qI_i ⟨hS, fun z2 => ?_, fun z2 => bad (fun w => by have := w.2; omega)⟩)⟩
    rw [x.2.1, ei, a3]
    refine ⟨x.1, ⟨by omega, by omega⟩, fun h15 e15 => ?_⟩
    have F15 : zF4 (pRw a i s1) h h15 := by rw [e15]; exact Fs rfl
    have s15 := F15.Sh hS
    have x15 := pIx_F x F15 (by unfold s1; omega)
    have r15 : ∀ k, gI h15 211 k = gI h 211 k := fun k => by rw [e15, row211 x.1 hi24]
    rw [r15, a2]
    refine ⟨by omega, sp_moveOn (p := p) (by omega) s15 x15.2.2.1 (tg_lt (by omega)) rfl (fun h18 s18 F18 pa18 => qV_i ⟨s18, ?_⟩)⟩
    obtain ⟨G18, f18⟩ := F34 F18
    have x18 := pIx_34 x15 G18
    have en : pNm t T q i p = pSg t 58 (bl t (p + 1)) := by unfold pNm; rw [if_pos ⟨nm, by omega⟩]
    refine sp_parseSign (by omega) s18 x18.2.2.1 pa18 (by omega) (fun h22 p1 e22 s22 F22 f22 pa22 => qI_i ⟨s22, Or.inr rfl, k1 h22 p1 (by rw [en, e22]) s22 (F15.tr (Frw (G18.tr F22))) (by rw [f22, f18, r15]) pa22 ?_⟩) (fun h22 f e22 s22 F22 f22 => qI_i ⟨s22, Or.inl rfl, k0 h22 f (by rw [en, e22]) s22 (F15.tr (Frw (G18.tr F22))) f22⟩)
    rw [F22.I _ _ (fun w => by have := w.1; omega), G18.I _ _ (fun w => by have := w.1; omega), e15, gI_sI, if_pos ⟨rfl, rfl⟩]
end XPK
