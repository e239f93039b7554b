/-! an item gone through, a layout computed, by the program -/
def xGB (G : zG) (d : Nat) (Q : Option zV → zHp → Prop) (p1 p2 : Int) (A I : Nat) (h11 : zHp) : Prop := (((gI h11 (A + 2 + I) 0) ≠ 5 → (((gI h11 (A + 2 + I) 0) ≠ 6 → (((gI h11 (A + 2 + I) 0) ≠ 7 → (wpN G (d - 1) M_X6_layFields 0 (zar 0 [vR 215, vI p1, vI p2]) [] h11 (qV (fun h18 => zSh h18 ∧ (((0 : Int) ≤ p1 ∧ p1 < ((24 : Nat) : Int)) ∧ (∀ h21 : zHp, h21 = sI h18 340 I (gI h18 215 3) → Q none h21)))))) ∧ ((gI h11 (A + 2 + I) 0) = 7 → (wpN G (d - 1) M_X6_align 0 (zar 0 [vR 215, vI (gI h11 (A + 2 + I) 10)]) [] h11 (qV (fun h24 => zSh h24 ∧ (((0 : Int) ≤ p1 ∧ p1 < ((24 : Nat) : Int)) ∧ (∀ h27 : zHp, h27 = sI h24 340 I (gI h24 215 3) → Q none h27)))))))) ∧ ((gI h11 (A + 2 + I) 0) = 6 → ((-2147483648 ≤ (gI h11 215 3) + (gI h11 (A + 2 + I) 10) ∧ (gI h11 215 3) + (gI h11 (A + 2 + I) 10) ≤ 2147483647) ∧ (∀ h29 : zHp, h29 = sI h11 215 3 ((gI h11 215 3) + (gI h11 (A + 2 + I) 10)) → (((0 : Int) ≤ p1 ∧ p1 < ((24 : Nat) : Int)) ∧ (∀ h31 : zHp, h31 = sI h29 340 I (gI h29 215 3) → Q none h31))))))) ∧ ((gI h11 (A + 2 + I) 0) = 5 → (wpN G (d - 1) M_X6_repeatStructure 0 (zar 0 [vR 215, vI p1, vI p2]) [] h11 (qV (fun h34 => zSh h34 ∧ (((0 : Int) ≤ p1 ∧ p1 < ((24 : Nat) : Int)) ∧ (∀ h37 : zHp, h37 = sI h34 340 I (gI h34 215 3) → Q none h37)))))))
section XGO2
variable {G : zG} {d : Nat} {Q : Option zV → zHp → Prop} {h : zHp} {T : List (List Int)} {bs : List Int} {off : Int} {a : Nat}
theorem xcome {h3 h7 h9 h11 : zHp} {i : Nat} {K : zLyK} {s : zLyS} (r : xRl h T s (vis T i K) K) (hs : lS s < 400) (hn : gI h 215 1 ≤ 60)
    (e3 : h3 = sI h 215 7 (gI h 215 7 + 1)) (e7 : h7 = sI h3 339 i (gI h3 215 3)) (e9 : h9 = sI h7 340 i (gI h7 215 3)) (e11 : h11 = sL h9 338 i 0) :
    xRl h11 T (lCome i (lTick s)) (fun x => vis T i K x ∨ x = i) K ∧ (∀ b j, b ≠ 339 → b ≠ 340 → ¬ (b = 215 ∧ j = 7) → gI h11 b j = gI h b j) ∧ zF4 xLf h h11 := by
  obtain ⟨r1, r2, r3, r4, r5, r6, r7⟩ := r
  have p3 : gI h3 215 3 = gI h 215 3 := by rw [e3, gI_sI, if_neg (by omega)]
  have p7 : gI h7 215 3 = gI h 215 3 := by rw [e7, gI_sI, if_neg (by omega), p3]
  have i11 : ∀ b j, gI h11 b j = gI h9 b j := fun b j => by rw [e11]; rfl
  have o : ∀ b j, b ≠ 339 → b ≠ 340 → ¬ (b = 215 ∧ j = 7) → gI h11 b j = gI h b j := fun b j q1 q2 q3 => by
    rw [i11, e9, gI_sI, if_neg (fun w => q2 w.1), e7, gI_sI, if_neg (fun w => q1 w.1), e3, gI_sI, if_neg q3]
  have w11 : ∀ j, gL h11 338 j = if j = i then 0 else gL h 338 j := fun j => by
    rw [e11, gL_sL]
    by_cases q : j = i
    · rw [if_pos ⟨rfl, q⟩, if_pos q]
    · rw [if_neg (fun z => q z.2), if_neg q, e9, e7, e3]
      rfl
  have g11 : ∀ j, gI h11 339 j = if j = i then gI h 215 3 else gI h 339 j := fun j => by
    rw [i11, e9, gI_sI, if_neg (by omega), e7, gI_sI, p3]
    by_cases q : j = i
    · rw [if_pos ⟨rfl, q⟩, if_pos q]
    · rw [if_neg (fun z => q z.2), if_neg q, e3, gI_sI, if_neg (by omega)]
  have n11 : ∀ j, gI h11 340 j = if j = i then gI h 215 3 else gI h 340 j := fun j => by
    rw [i11, e9, gI_sI, p7]
    by_cases q : j = i
    · rw [if_pos ⟨rfl, q⟩, if_pos q]
    · rw [if_neg (fun z => q z.2), if_neg q, e7, gI_sI, if_neg (by omega), e3, gI_sI, if_neg (by omega)]
  have s11 : gI h11 215 7 = gI h 215 7 + 1 := by rw [i11, e9, gI_sI, if_neg (by omega), e7, gI_sI, if_neg (by omega), e3, gI_sI, if_pos ⟨rfl, rfl⟩]
  have tk : lTick s = lMk (lF s) (lB s) (lP s) (lS s + 1) (lW s) (lG s) (lE s) := by unfold lTick; rw [if_neg (by omega)]
  have fs : xFs h11 = xFs h := xFs_I (o _ _ (by omega) (by omega) (by omega)) (fun b j _ _ => o _ _ (by omega) (by omega) (by omega)) hn
  have F : zF4 xLf h h11 := by
    have q7 : xLf 215 7 := Or.inl ⟨rfl, Or.inr rfl⟩
    rw [e11, e9, e7, e3]
    exact (((zF4.sI q7).tr (zF4.sI (Or.inr ⟨by omega, by omega⟩))).tr (zF4.sI (Or.inr ⟨by omega, by omega⟩))).tr (zF4.sL (Or.inr ⟨by omega, by omega⟩))
  refine ⟨⟨?_, ?_, ?_, ?_, fun j hj => ?_, fun j hj hx => ?_, fun j hj pl => ?_⟩, o, F⟩
  · rw [tk, fs]; exact r1
  · rw [tk, o _ _ (by omega) (by omega) (by omega)]; exact r2
  · rw [tk, o _ _ (by omega) (by omega) (by omega)]; exact r3
  · rw [tk, s11]
    show lS s + 1 = _
    rw [r4]
  · rw [tk, g11]
    show upF (lG s) i (lP s) j = _
    unfold upF
    by_cases q : j = i
    · rw [if_pos q, if_pos q, r3]
    · rw [if_neg q, if_neg q]
      exact r5 j (by rcases hj with w | w; exact w; exact absurd w q)
  · rw [tk, n11]
    show upF (lE s) i (lP s) j = _
    unfold upF
    by_cases q : j = i
    · rw [if_pos q, if_pos q, r3]
    · rw [if_neg q, if_neg q]
      exact r6 j (by rcases hj with w | w; exact w; exact absurd w q) hx
  · rw [tk, w11]
    show upF (lW s) i 0 j = _
    unfold upF
    by_cases q : j = i
    · rw [if_pos q, if_pos q]
    · rw [if_neg q, if_neg q]
      exact r7 j (by rcases hj with w | w; exact w; exact absurd w q) pl
def goSp (G : zG) (d : Nat) (a : Nat) (T : List (List Int)) (bs : List Int) (off : Int) (L : Nat) : Prop := ∀ (g : zHp) (j : Nat) (K' : zLyK) (s' : zLyS) (Q' : Option zV → zHp → Prop), K'.length = L → j < T.length → kIn T K' j → cInv T bs off (j, (K', s')) → xBase g a T bs off → xPre g T j K' s' → (∀ g', zSh g' → zF4 xLf g g' → (∀ x, x < K'.length → gI g' 337 x = gI g 337 x) → (xA g' T bs off (j, (K', s')) (ti T j 5).toNat K' K' ∨ xB g' T bs off (j, (K', s'))) → Q' none g') → wpN G d M_X6_goThrough 0 (zar 0 [vR 215, vI (j : Int), vI (K'.length : Int)]) [] g Q'
theorem sp_gbody {i : Nat} {K : zLyK} {s s1 : zLyS} {c0 : zLyC} (hd : 3 ≤ d) (hS : zSh h) (ok : tOk T) (bb : xBase h a T bs off) (hi : i < T.length) (ki : kIn T K i) (ic : cInv T bs off c0) (es : s = lCome i s1)
    (rl : xRl h T s (fun r => vis T i K r ∨ r = i) K) (h31 : 0 ≤ gI h 215 1) (s0 : lB s = 0) (hf : fsOk bs s) (hs : sOk off s) (hrg : rgV s (fun r => vis T i K r ∨ r = i)) (pth : kPath T K = (List.range K.length).map (gI h 337))
    (nab : ¬ (ti T i 6 ≠ -1 ∧ lW s (ti T i 6).toNat ≠ ti T i 7)) (rc : rch T bs off c0 (lGo T bs off i K s)) (hGo : ti T i 0 = 5 → 5 ≤ d ∧ goSp G (d - 1 - 1) a T bs off (K.length + 1))
    (k : ∀ g, zSh g → zF4 xLf h g → (∀ x, x < K.length → gI g 337 x = gI h 337 x) → (xA g T bs off c0 (ti T i 5).toNat K K ∨ xB g T bs off c0) → Q none g) : xGB G d Q (i : Int) (K.length : Int) a i h := by
  have l24 := ok.1
  have hTa := bb.1
  have la := ztmp hTa
  obtain ⟨nx, nv⟩ := kAt_next ok hi ki
  have eT := bb.2.2.1
  have e6 := bb.2.2.2.2.2
  obtain ⟨⟨⟨a1, k0, k7⟩, ⟨n1, n2⟩, a2, a3, a4, a5, a6⟩, ⟨_, b2, b3, b4, b5, b6⟩, _⟩ := ok.2.2 i hi
  obtain ⟨⟨hs1, hs2⟩, hs3, hs4, hs5⟩ := hs
  have n60 := fs_len rl.1 h31 hf
  have e33 : lP s = gI h 215 3 := rl.2.2.1
  have t0 : gI h (a + 2 + i) 0 = ti T i 0 := xtt eT hi (by omega)
  have t10 : gI h (a + 2 + i) 10 = ti T i 10 := xtt eT hi (by omega)
  -- whole: the end set
  have fin : ∀ (g g' : zHp) (s' : zLyS), zSh g → zF4 xLf h g → (∀ x, x < K.length → gI g 337 x = gI h 337 x) → xRl g T s' (fun r => vis T i K r ∨ r = i) K → 0 ≤ gI g 215 1 → gI g 215 1 ≤ 60 → lB s' = 0 → g' = sI g 340 i (gI g 215 3) → lGo T bs off i K s = ((ti T i 5).toNat, (K, lSetE s' i)) → Q none g' := by
    intro g g' s' sg F pg r2 p1 p2 b0 e eg
    obtain ⟨r3, o⟩ := xsetE r2 p2 e
    have F' : zF4 xLf g g' := by rw [e]; exact zF4.sI (Or.inr ⟨by omega, by omega⟩)
    rw [eg] at rc
    exact k g' (F'.Sh sg) (F.tr F') (fun x hx => by rw [o _ _ (by omega), pg x hx]) (Or.inl ⟨lSetE s' i, rc, b0, xRl_mono r3 nv, by rw [o _ _ (by omega)]; exact p1⟩)
  unfold xGB
  rw [t0, t10]
  refine ⟨fun c5 => ⟨fun c6 => ⟨fun c7 => ?_, fun c7 => ?_⟩, fun c6 => ⟨by omega, fun h29 e29 => ⟨⟨by omega, by omega⟩, fun h31' e31 => ?_⟩⟩⟩, fun c5 => ?_⟩
  · have kc : ti T i 0 ≤ 4 := by omega
    have go : lGo T bs off i K s = ((ti T i 5).toNat, (K, lSetE (lAll T bs K i s) i)) := by
      unfold lGo
      rw [if_neg nab, if_neg c5, if_neg c6, if_neg c7]
    refine sp_layFields (s := s) (V := fun r => vis T i K r ∨ r = i) (by omega) hS bb.2.2.2.1 bb.2.1 hTa eT ok hi bb.2.2.2.2.1 kc rl s0 h31 hf (itA_of ok hi ki kc hrg) (by omega) (by omega) (fun w => ?_) (fun w w2 => ?_) pth (fun h18 s18 F18 vs rl18 => qV_i ⟨s18, ⟨by omega, by omega⟩, fun h21 e21 => ?_⟩)
    · obtain ⟨r1, r2, r3, r4, r5⟩ := b5 ⟨w, kc⟩
      refine ⟨Or.inl (vis_sib ki (by omega) r4), Or.inl (vis_sib ki (by omega) r5), fun x hx e => ?_⟩
      -- an item around i has another block than i
      have l1 := kIn_lt K i ki x hx
      have hp := (ok.2.2 x.1 l1.2.1).2.2.1
      rw [← e] at r5
      match K, ki, hx with
      | (t, (c, u)) :: K', ki, hx =>
        have q1 := ki.1
        have q2 := kIn_lt K' t ki.2.2.2.2.2.2
        rcases List.mem_cons.mp hx with z | z
        · have z1 : x.1 = t := by rw [z]
          omega
        · have := (q2 x z).1
          omega
    · have hr : tRef T i (ti T i 9) := by
        rcases b2 with q | ⟨_, _, q | ⟨q, _⟩⟩
        · omega
        · omega
        · exact q
      exact ⟨Or.inl (vis_ref hi ki hr), hr.2.2.1⟩
    · have F2 : zF4 xLf h h18 := F18.mono (fun b j w => by
        rcases w with (⟨w, w2⟩ | w) | ⟨w, w2⟩ | w
        · exact Or.inl ⟨w, Or.inl w2⟩
        · exact Or.inr ⟨by omega, by omega⟩
        · exact Or.inr ⟨by omega, by omega⟩
        · exact Or.inr ⟨by omega, by omega⟩)
      have pg : ∀ x, x < K.length → gI h18 337 x = gI h 337 x := fun x hx => F18.I _ _ (by
        rintro ((⟨w, w2⟩ | ⟨w, w2⟩) | ⟨w, w2⟩ | w) <;> omega)
      have f2 := (lAll_ok2 (itA_of ok hi ki kc hrg) hf (by omega)).1
      have x1 : lF (lAll T bs K i s) = xFs h18 := congrArg Prod.fst vs.1
      have n18 := fs_len x1 vs.2 f2
      by_cases lb : lB (lAll T bs K i s) = 0
      · exact fin h18 h21 _ s18 F2 pg (rl18 lb) vs.2 n18 lb e21 go
      · have o : ∀ b j, ¬ (b = 340 ∧ j = i) → gI h21 b j = gI h18 b j := fun b j q => by rw [e21, gI_sI, if_neg q]
        have F' : zF4 xLf h18 h21 := by rw [e21]; exact zF4.sI (Or.inr ⟨by omega, by omega⟩)
        rw [go] at rc
        refine k h21 (F'.Sh s18) (F2.tr F') (fun x hx => by rw [o _ _ (by omega), pg x hx]) (Or.inr ⟨_, rc, lb, ?_, by rw [o _ _ (by omega)]; exact vs.2⟩)
        show lVis (lAll T bs K i s) = _
        rw [vs.1, xFs_I (h' := h21) (h := h18) (o _ _ (by omega)) (fun b j _ _ => o _ _ (by omega)) n18, o _ _ (by omega), o _ _ (by omega)]
  · have w10 := b3 (by omega)
    have w11 := b4 c7
    refine sp_align hS (by omega) (by omega) (by omega) (by omega) (by omega) (fun h24 e24 => ?_)
    have go : lGo T bs off i K s = ((ti T i 5).toNat, (K, lSetE (lSetP s (alP (lP s) off (ti T i 10))) i)) := by
      unfold lGo
      rw [if_neg nab, if_neg c5, if_neg c6, if_pos c7]
    rw [e6, ← e33] at e24
    have o : ∀ b j, ¬ (b = 215 ∧ j = 3) → gI h24 b j = gI h b j := fun b j q => by
      rcases e24 with e | ⟨e, _⟩
      · rw [e, gI_sI, if_neg q]
      · rw [e]
    have oL : ∀ j, gL h24 338 j = gL h 338 j := fun j => by
      rcases e24 with e | ⟨e, _⟩
      · rw [e]; rfl
      · rw [e]
    have ep : gI h24 215 3 = alP (lP s) off (ti T i 10) := by
      rcases e24 with e | ⟨e, e'⟩
      · rw [e, gI_sI, if_pos ⟨rfl, rfl⟩]
      · rw [e, e', e33]
    have F : zF4 xLf h h24 := by
      rcases e24 with e | ⟨e, _⟩
      · rw [e]; exact zF4.sI (Or.inl ⟨rfl, Or.inl ⟨by omega, by omega⟩⟩)
      · rw [e]; exact zF4.rf
    have r2 := xsetP rl n60 o oL
    rw [ep] at r2
    exact qV_i ⟨F.Sh hS, ⟨by omega, by omega⟩, fun h27 e27 => fin h24 h27 _ (F.Sh hS) F (fun x hx => o _ _ (by omega)) r2 (by rw [o _ _ (by omega)]; exact h31) (by rw [o _ _ (by omega)]; exact n60) s0 e27 go⟩
  · have w10 := b3 (by omega)
    have go : lGo T bs off i K s = ((ti T i 5).toNat, (K, lSetE (lSetP s (lP s + ti T i 10)) i)) := by
      unfold lGo
      rw [if_neg nab, if_neg c5, if_pos c6]
    have o : ∀ b j, ¬ (b = 215 ∧ j = 3) → gI h29 b j = gI h b j := fun b j q => by rw [e29, gI_sI, if_neg q]
    have oL : ∀ j, gL h29 338 j = gL h 338 j := fun j => by rw [e29]; rfl
    have ep : gI h29 215 3 = lP s + ti T i 10 := by rw [e29, gI_sI, if_pos ⟨rfl, rfl⟩, e33]
    have F : zF4 xLf h h29 := by rw [e29]; exact zF4.sI (Or.inl ⟨rfl, Or.inl ⟨by omega, by omega⟩⟩)
    have r2 := xsetP rl n60 o oL
    rw [ep] at r2
    exact fin h29 h31' _ (F.Sh hS) F (fun x hx => o _ _ (by omega)) r2 (by rw [o _ _ (by omega)]; exact h31) (by rw [o _ _ (by omega)]; exact n60) s0 e31 go
  · obtain ⟨d5, hG⟩ := hGo c5
    have le : lE s i = lP s := by
      rw [es]
      show upF (lE s1) i (lP s1) i = lP s1
      unfold upF
      rw [if_pos rfl]
    refine sp_rep (s := s) (c0 := c0) (by omega) hS ok bb hi ki c5 ic rl h31 s0 hf hs1 le pth (fun c => ?_) (fun c => ?_) hG (fun g sg F pg alt => qV_i ⟨sg, ⟨by omega, by omega⟩, fun h37 e37 => ?_⟩)
    · have go : lGo T bs off i K s = ((ti T i 5).toNat, (K, s)) := by
        unfold lGo
        rw [if_neg nab, if_pos c5, if_pos c]
      rw [go] at rc
      exact rc
    · have go : lGo T bs off i K s = (i + 1, ((i, (tCnt T (lW s) i, 0)) :: K, lTick s)) := by
        unfold lGo
        rw [if_neg nab, if_pos c5, if_neg (by omega)]
      rw [go] at rc
      exact rc
    · have F' : zF4 xLf g h37 := by rw [e37]; exact zF4.sI (Or.inr ⟨by omega, by omega⟩)
      have o : ∀ b j, ¬ (b = 340 ∧ j = i) → gI h37 b j = gI g b j := fun b j q => by rw [e37, gI_sI, if_neg q]
      refine k h37 (F'.Sh sg) (F.tr F') (fun x hx => by rw [o _ _ (by omega), pg x hx]) ?_
      rcases alt with ⟨s', u1, u2, u3, u4, u5⟩ | ⟨c', u1, u2, u3⟩
      · have f2 := (rch_inv ok (xBase_len bb) u1 ic).1
        exact Or.inl ⟨s', u1, u2, xsetE2 u3 u5 (fs_len u3.1 u4 f2) e37, by rw [o _ _ (by omega)]; exact u4⟩
      · have f2 := (rch_inv ok (xBase_len bb) u1 ic).1
        have x1 : lF c'.2.2 = xFs g := congrArg Prod.fst u3.1
        have n18 := fs_len x1 u3.2 f2
        refine Or.inr ⟨c', u1, u2, ?_, by rw [o _ _ (by omega)]; exact u3.2⟩
        rw [u3.1, xFs_I (h' := h37) (h := g) (o _ _ (by omega)) (fun b j _ _ => o _ _ (by omega)) n18, o _ _ (by omega), o _ _ (by omega)]
theorem sp_go1 {L : Nat} (hd : 3 ≤ d) (hL : L ≤ 3) (ok : tOk T) (hGo : L ≤ 2 → 5 ≤ d ∧ goSp G (d - 1 - 1) a T bs off (L + 1)) : goSp G d a T bs off L := by
  intro h i K s Q eL hi ki ic bb pre k
  obtain ⟨hS, rl, h31, s0, pth⟩ := pre
  obtain ⟨hf, hn⟩ := ic
  obtain ⟨ka, hs, hrg⟩ := hn s0
  have ic : cInv T bs off (i, (K, s)) := ⟨hf, hn⟩
  have l24 := ok.1
  have hTa := bb.1
  have la := ztmp hTa
  have eT := bb.2.2.1
  have hl := kIn_len ok hi ki
  obtain ⟨nx, nv⟩ := kAt_next ok hi ki
  have e7 : lS s = gI h 215 7 := rl.2.2.2.1
  have hs1 : 0 ≤ lS s := hs.1.1
  have n60 : gI h 215 1 ≤ 60 := fs_len rl.1 h31 hf
  have ei : (i : Int).toNat = i := by omega
  have st := lStep_pass (bs := bs) (off := off) hi ki s0
  have rc0 : rch T bs off (i, (K, s)) (lPass T bs off i K s) := by rw [← st]; exact rch_1
  obtain ⟨_, ⟨b1, _⟩, _⟩ := ok.2.2 i hi
  refine vc_X6_goThrough_0 i K.length h hS hd ⟨fun c => by omega, fun _ => sp_makeStep hS (by omega) (fun c7 => ?_) (fun c7 => ?_)⟩
  · have F3 : zF4 xLf h (sI h 215 7 (gI h 215 7 + 1)) := zF4.sI (Or.inl ⟨rfl, Or.inr rfl⟩)
    refine qI_i ⟨F3.Sh hS, fun _ => ?_, fun z => absurd z (by omega)⟩
    have A : gR (sI h 215 7 (gI h 215 7 + 1)) 215 5 = a := bb.2.1
    rw [A, ei]
    refine ⟨hTa, ⟨by omega, by omega⟩, ⟨by omega, by omega⟩, fun h7 e7' => ⟨⟨by omega, by omega⟩, fun h9 e9 => ⟨⟨by omega, by omega⟩, fun h11 e11 => ?_⟩⟩⟩
    obtain ⟨rl11, o, F11⟩ := xcome rl (by omega) n60 rfl e7' e9 e11
    have s11 := F11.Sh hS
    have b11 := xBase_F bb F11 l24
    have t6 : gI h11 (a + 2 + i) 6 = ti T i 6 := xtt b11.2.2.1 hi (by omega)
    have t7 : gI h11 (a + 2 + i) 7 = ti T i 7 := xtt b11.2.2.1 hi (by omega)
    obtain ⟨v1, v2, v3, v4, v5⟩ := lTick_vis s
    have tk : lS (lTick s) = lS s + 1 ∧ lB (lTick s) = lB s := by
      rcases lTick_cases s with ⟨q1, q2⟩ | ⟨q1, q2, q3⟩
      · omega
      · exact ⟨q2, q3⟩
    have b9 : lB (lCome i (lTick s)) = 0 := by rw [← s0, ← tk.2]; rfl
    have f9 : fsOk bs (lCome i (lTick s)) := by
      have q : lF (lCome i (lTick s)) = lF s := v1
      unfold fsOk
      rw [q]
      exact hf
    have so9 : sOk off (lCome i (lTick s)) := by
      have q1 : lS (lCome i (lTick s)) = lS s + 1 := tk.1
      have q2 : lP (lCome i (lTick s)) = lP s := v2
      obtain ⟨⟨y1, y2⟩, y3, y4, y5⟩ := hs
      have y5 : lP s ≤ 200 + 999 * lS s := y5
      have y4 : off ≤ lP s := y4
      unfold sOk
      rw [q1, q2]
      omega
    have p0 : 0 ≤ lP s := by
      have y3 := hs.2.1
      have y4 : off ≤ lP s := hs.2.2.1
      omega
    have rg9 : rgV (lCome i (lTick s)) (fun r => vis T i K r ∨ r = i) := rgV_come (rgV_of hrg v3 v4 (by rw [v2]; exact Int.le_refl _)) (by rw [v2]; exact p0)
    have lp : lPass T bs off i K s = lGo T bs off i K (lCome i (lTick s)) := by unfold lPass; rw [if_neg (by omega)]
    rw [lp] at rc0
    have pth9 : kPath T K = (List.range K.length).map (gI h11 337) := by
      rw [pth]
      exact List.map_congr_left (fun x _ => (o _ _ (by omega) (by omega) (by omega)).symm)
    have body : ¬ (ti T i 6 ≠ -1 ∧ lW (lCome i (lTick s)) (ti T i 6).toNat ≠ ti T i 7) → xGB G d Q (i : Int) (K.length : Int) a i h11 := fun nab =>
      sp_gbody hd s11 ok b11 hi ki ic rfl rl11 (by rw [o _ _ (by omega) (by omega) (by omega)]; exact h31) b9 f9 so9 rg9 pth9 nab rc0 (fun c5 => by
        have q := hGo (by have := hl.2 c5; omega)
        rw [eL]
        exact q) (fun g sg F pg alt => k g sg (F11.tr F) (fun x hx => by rw [pg x hx, o _ _ (by omega) (by omega) (by omega)]) alt)
    rw [t6, t7]
    refine ⟨fun cn => body (fun w => w.1 cn), fun cp => ?_⟩
    have hr : tRef T i (ti T i 6) := by
      rcases b1 with q | ⟨q, _⟩
      · exact absurd q.1 cp
      · exact q
    have hr0 := hr.1
    have hr1 := hr.2.1
    have eW : lW (lCome i (lTick s)) (ti T i 6).toNat = gL h11 338 (ti T i 6).toNat := rl11.2.2.2.2.2.2 _ (Or.inl (vis_ref hi ki hr)) hr.2.2.1
    rw [← eW]
    refine ⟨⟨by omega, by omega⟩, fun ce => body (fun w => w.2 ce), fun cne => ?_⟩
    have go : lGo T bs off i K (lCome i (lTick s)) = ((ti T i 5).toNat, (K, lCome i (lTick s))) := by
      unfold lGo
      rw [if_pos ⟨cp, cne⟩]
    rw [go] at rc0
    exact k h11 s11 F11 (fun x hx => o _ _ (by omega) (by omega) (by omega)) (Or.inl ⟨_, rc0, b9, xRl_mono rl11 nv, by rw [o _ _ (by omega) (by omega) (by omega)]; exact h31⟩)
  · have lp : lPass T bs off i K s = (i, (K, lSetB s 3)) := by unfold lPass; rw [if_pos (by omega)]
    rw [lp] at rc0
    have F3 : zF4 xLf h (sI h 215 2 3) := zF4.sI (Or.inl ⟨rfl, Or.inl ⟨by omega, by omega⟩⟩)
    have o : ∀ b j, ¬ (b = 215 ∧ j = 2) → gI (sI h 215 2 3) b j = gI h b j := fun b j q => by rw [gI_sI, if_neg q]
    refine qI_i ⟨F3.Sh hS, fun z => absurd rfl z, fun _ => k _ (F3.Sh hS) F3 (fun x hx => o _ _ (by omega)) (Or.inr ⟨_, rc0, by show ¬ (3 : Int) = 0; omega, ?_, by rw [o _ _ (by omega)]; exact h31⟩)⟩
    show (lF s, ((3 : Int), lP s)) = _
    rw [rl.1, rl.2.2.1, xFs_I (h' := sI h 215 2 3) (h := h) (o _ _ (by omega)) (fun b j _ _ => o _ _ (by omega)) n60, o 215 3 (by omega), gI_sI, if_pos ⟨rfl, rfl⟩]
theorem sp_go (ok : tOk T) (hd : 9 ≤ d) : goSp G d a T bs off 0 := by
  refine sp_go1 (by omega) (by omega) ok (fun _ => ⟨by omega, ?_⟩)
  refine sp_go1 (by omega) (by omega) ok (fun _ => ⟨by omega, ?_⟩)
  refine sp_go1 (by omega) (by omega) ok (fun _ => ⟨by omega, ?_⟩)
  exact sp_go1 (by omega) (by omega) ok (fun q => absurd q (by omega))
/-- what computing a layout leaves as it was -/
def xCf (h h' : zHp) : Prop := (∀ b j, ¬ ((b = 215 ∧ 1 ≤ j ∧ j ≤ 7) ∨ (217 ≤ b ∧ b ≤ 340)) → gI h' b j = gI h b j ∧ gL h' b j = gL h b j) ∧ ∀ b j, ¬ (b = 215 ∧ j = 5) → gR h' b j = gR h b j
theorem xCf_Sh {h h' : zHp} (F : xCf h h') (hS : zSh h) : zSh h' := fun b j hx => by
  by_cases q : b = 215 ∧ j = 5
  · rw [q.1, q.2] at hx
    exact absurd (show zshp 215 5 = 0 by decide +kernel) hx
  · rw [F.2 b j q]; exact hS b j hx
theorem sp_compute {off : Int} (hd : 10 ≤ d) (hS : zSh h) (h8 : dOk h 8) (hTa : zT 369 a = (108, 2)) (eT : xT h a = T) (ok : tOk T) (eb : (dv h 8).1 = bs) (o0 : 0 ≤ off) (o1 : off ≤ 200)
    (k : ∀ h', zSh h' → xCf h h' → layT T bs off = (xFs h', (gI h' 215 2, gI h' 215 3)) → 0 ≤ gI h' 215 1 → Q none h') : wpN G d M_X6_compute 0 (zar 0 [vR 215, vR a, vI off]) [] h Q := by
  have la := ztmp hTa
  have l24 := ok.1
  have hu : gI h a 1 ≤ 24 := by
    have := xT_len (h := h) (a := a)
    rw [eT] at this
    omega
  have hu0 : (T.length : Int) = gI h a 1 ∨ (gI h a 1 < 0 ∧ T.length = 0) := by
    have := xT_len (h := h) (a := a)
    rw [eT] at this
    omega
  have ic0 : cInv T bs off (0, ([], lStart off)) := cInv_start ok o0 o1
  have loop : ∀ (m y : Nat) (h0 g : zHp), y + m = T.length → xCf h h0 → xBase h0 a T bs off → zSh g → zF4 xLf h0 g → (xA g T bs off (0, ([], lStart off)) y [] [] ∨ xB g T bs off (0, ([], lStart off))) → wpN G d M_X6_compute 32 [(0, vR 215), (1, vR a), (2, vI off), (3, vI (y : Int))] [] g Q := by
    intro m
    induction m using Nat.strongRecOn with
    | _ m ih =>
    intro y h0 g hy C0 bb sg F alt
    have hbs := xBase_len bb
    have bg := xBase_F bb F l24
    have ua : gI g a 1 = gI h a 1 := by rw [F.I _ _ (by rintro (⟨w, _⟩ | ⟨w, w2⟩) <;> omega), (C0.1 _ _ (by omega)).1]
    have Cg : xCf h g := ⟨fun b j q => ⟨by rw [F.I _ _ (by rintro (⟨w, w2⟩ | ⟨w, w2⟩) <;> omega), (C0.1 _ _ q).1], by rw [(F.1 b j (by rintro (⟨w, w2⟩ | ⟨w, w2⟩) <;> omega)).2, (C0.1 _ _ q).2]⟩, fun b j q => by rw [F.2, C0.2 _ _ q]⟩
    rcases alt with ⟨s, w1, w2, w3, w4⟩ | brk
    · have ic := rch_inv ok hbs w1 ic0
      have ka : kAt T [] y := (ic.2 w2).1
      have rz : gI g 215 2 = 0 := by rw [← w3.2.1]; exact w2
      refine vc_X6_compute_32 a hTa off y g sg (by omega) (fun y1 y2 y3 g' => y1 = a ∧ y2 = off ∧ wpN G d M_X6_compute 32 [(0, vR 215), (1, vR a), (2, vI off), (3, vI y3)] [] g' Q) ?_ ?_
      · rintro _ _ _ _ ⟨z0, z1, z2⟩
        rw [z0, z1]
        exact z2
      · rw [ua]
        refine ⟨fun c => k g sg Cg ?_ w4, fun c => ⟨fun c2 => absurd rz c2, fun _ => ?_⟩⟩
        · obtain ⟨n, hn⟩ := w1
          have hh : lHalt T (lIt T bs off n (0, ([], lStart off))) := by rw [hn]; exact Or.inr ⟨rfl, by show T.length ≤ y; omega⟩
          rw [← layT_of hh, hn]
          exact xRl_vis w3
        · have yl : y < T.length := by omega
          have ki : kIn T [] y := ka.2 yl
          refine (sp_go (G := G) (a := a) ok (show 9 ≤ d - 1 by omega)) g y [] s _ rfl yl ki ic bg ⟨sg, w3, w4, w2, rfl⟩ (fun g' sg' F' pg' alt' => qV_i ⟨sg', by omega, ⟨by omega, by omega⟩, ?_⟩)
          have F2 := F.tr F'
          have b2 := xBase_F bb F2 l24
          have ey := (ok.2.2 y yl).2.2.2.1
          rw [show (y : Int).toNat = y by omega, xtt b2.2.2.1 yl (by omega)]
          refine sp_max sg' (fun z hz => qI_i ⟨sg', fun _ => ⟨rfl, rfl, ?_⟩⟩)
          have zn : z = (((ti T y 5).toNat : Nat) : Int) := by omega
          rw [zn]
          refine ih (T.length - (ti T y 5).toNat) (by omega) (ti T y 5).toNat h0 g' (by omega) C0 bb sg' F2 ?_
          rcases alt' with ⟨t3, u1, u2, u3, u4⟩ | ⟨c', u1, u2, u3⟩
          · exact Or.inl ⟨t3, rch_tr w1 u1, u2, u3, u4⟩
          · exact Or.inr ⟨c', rch_tr w1 u1, u2, u3⟩
    · obtain ⟨c', u1, u2, u3⟩ := brk
      have nb : gI g 215 2 ≠ 0 := by
        have e : lB c'.2.2 = gI g 215 2 := congrArg (fun x => x.2.1) u3.1
        rw [← e]; exact u2
      have fin : Q none g := by
        refine k g sg Cg ?_ u3.2
        obtain ⟨n, hn⟩ := u1
        have hh : lHalt T (lIt T bs off n (0, ([], lStart off))) := by rw [hn]; exact Or.inl u2
        rw [← layT_of hh, hn]
        exact u3.1
      exact vc_X6_compute_32 a hTa off y g sg (by omega) (fun _ _ _ _ => False) (fun _ _ _ _ q => q.elim) ⟨fun _ => fin, fun c => ⟨fun _ => fin, fun c2 => absurd c2 nb⟩⟩
  refine vc_X6_compute_0 a hTa off h hS (by omega) (fun y1 y2 y3 g => y1 = a ∧ y2 = off ∧ y3 = ((0 : Nat) : Int) ∧ zSh g ∧ xCf h g ∧ xBase g a T bs off ∧ gI g 215 1 = 0 ∧ gI g 215 2 = 0 ∧ gI g 215 7 = 0 ∧ gI g 215 3 = off) ?_ ?_
  · rintro _ _ _ g ⟨z0, z1, z2, sg, Cg, bg, e1, e2, e7, e3⟩
    rw [z0, z1, z2]
    have fs : xFs g = [] := by unfold xFs; rw [e1]; rfl
    refine loop T.length 0 g g (by omega) Cg bg sg zF4.rf (Or.inl ⟨lStart off, rch_rf, rfl, ⟨?_, ?_, ?_, ?_, fun j hj => absurd hj.1 (by omega), fun j hj => absurd hj.1 (by omega), fun j hj => absurd hj.1 (by omega)⟩, by omega⟩)
    · show [] = _
      rw [fs]
    · show (0 : Int) = _
      rw [e2]
    · show off = _
      rw [e3]
    · show (0 : Int) = _
      rw [e7]
  · intro h1 q1 h3 q3 h5 q5 h7 q7 h9 q9 h11 q11 s11
    have o : ∀ b j, ¬ (b = 215 ∧ 1 ≤ j ∧ j ≤ 7) → gI h11 b j = gI h b j := fun b j q => by
      rw [q11, gI_sI, if_neg (by omega), q9, gI_sI, if_neg (by omega), q7, gI_sI, if_neg (by omega), q5, gI_sI, if_neg (by omega), q3, gI_sI, if_neg (by omega), q1]
      rfl
    have oR : ∀ b j, ¬ (b = 215 ∧ j = 5) → gR h11 b j = gR h b j := fun b j q => by
      rw [q11, q9, q7, q5, q3, q1]
      show gR (sR h 215 5 a) b j = _
      rw [gR_sR, if_neg q]
    have oL : ∀ b j, gL h11 b j = gL h b j := fun b j => by rw [q11, q9, q7, q5, q3, q1]; rfl
    have C : xCf h h11 := ⟨fun b j q => ⟨o b j (by omega), oL b j⟩, oR⟩
    have f3 : zF3 (fun b => b = 215) h h11 := fun b hb => ⟨fun j => o b j (by omega), fun j => oL b j, fun j => oR b j (by omega)⟩
    refine ⟨rfl, rfl, rfl, s11, C, ⟨hTa, ?_, ?_, dOk_f3 f3 (by rintro b ⟨w1, w2⟩ w; omega) h8, ?_, ?_⟩, ?_, ?_, ?_, ?_⟩
    · rw [q11, q9, q7, q5, q3, q1]
      show gR (sR h 215 5 a) 215 5 = a
      rw [gR_sR, if_pos ⟨rfl, rfl⟩]
    · rw [xT_I (h' := h11) (h := h) (o _ _ (by omega)) (fun b j _ _ => o _ _ (by omega)) hu, eT]
    · rw [dv_f3 8 f3 (by rintro b ⟨w1, w2⟩ w; omega), eb]
    · rw [q11, q9, q7, q5, q3]; simp [gI_sI]
    · rw [q11, q9, q7]; simp [gI_sI]
    · rw [q11]; simp [gI_sI]
    · rw [q11, q9]; simp [gI_sI]
    · rw [q11, q9, q7, q5]; simp [gI_sI]
end XGO2
