/-! reading a template: the whole of it, by the program -/
section XPC
variable {G : zG} {d : Nat} {Q : Option zV → zHp → Prop} {h : zHp} {t : List Int} {a : Nat}
theorem sp_pib {p0 x : Nat} {K : List Nat} {T : List (List Int)} {g : zHp} {cc cv : Int} (hd : 9 ≤ d) (hL : K.length ≤ 3) (sg : zSh g) (F0 : zF4 (pFA a) h g) (b : pBs g a t) (hi : T.length < 24) (u : gI g a 1 = (T.length : Int) + 1) (rows : ∀ k, k < T.length → ∀ f, f < 13 → gI g (a + 2 + k) f = ti T k f) (row : ∀ f, f < 13 → gI g (a + 2 + T.length) f = (r0 (-1) (kTop K) T.length cc cv).getD f 0) (pa : pAt g t x) (f0 : gI g 211 4 = -1009)
    (ne : ¬ pEnd t (p0, (K, T))) (hc : K ≠ [] → tg t p0 ≠ 125) (ep : pItm t T (kTop K) K.length p0 = pB (if tg t x = 46 ∨ tg t x = 64 then pGap t (kTop K) T.length x cc cv else pB (pNm t T (kTop K) T.length x) (fun p2 => pTy t T (kTop K) K.length T.length p2 (tg t x) cc cv)) (fun y => if y.2.2 = true then pB (pSg t 59 y.1) (fun p3 => .inr (p3, y.2)) else .inr y))
    (hB : K.length ≤ 2 → blSp G (d - 1 - 1 - 1) a t (K.length + 1)) (k : iPost Q h a t (p0, (K, T))) : xIB G d Q (T.length : Int) (K.length : Int) g := by
  have la := ztmp b.1
  have xx : pIx g a t T T.length (kTop K) := ⟨b.1, b.2.1, b.2.2, rows, by rw [row 4 (by omega)]; rfl, by omega, hi⟩
  have ei : (T.length : Int).toNat = T.length := by omega
  have est := pStep_item (t := t) (T := T) hc
  have gap : (tg t x = 46 ∨ tg t x = 64) → wpN G (d - 1) M_X9_parseGap 0 (zar 0 [vR 211, vR (a + 2 + T.length)]) [] g (qI (fun z8 h9 => zSh h9 ∧ ((z8 = 0 → Q (some (vI 0)) h9) ∧ (z8 ≠ 0 → xSm G d Q (T.length : Int) h9)))) := by
    intro c
    rw [if_pos c] at ep
    refine sp_parseGap (c := cc) (v := cv) (by omega) sg xx pa c (fun g2 p2 n e2 s2 F2 f2 pg2 v0 v10 => qI_i ⟨s2, fun w => absurd w (by omega), fun _ => ?_⟩) (fun g2 f e2 s2 F2 f2 => qI_i ⟨s2, fun _ => k.2 g2 f (pFl_0 ne (by rw [est, ep, pB_inl e2]; rfl)) s2 (F0.tr (Fa hi F2)) f2, fun w => absurd rfl w⟩)
    refine sp_semi (by omega) hi s2 (F0.tr (Fa hi F2)) ?_ k
    have n2 := pRw_n b.1 hi F2
    have er2 : pItm t T (kTop K) K.length p0 = pB (pSg t 59 p2) (fun p3 => .inr (p3, (rw13 (if tg t x = 64 then 7 else 6) (-1) 0 0 (kTop K) ((T.length : Int) + 1) cc cv 0 (-1) n (-1) (-1), true))) := by rw [ep, pB_inr e2]; rfl
    have ll : (T ++ [rw13 (if tg t x = 64 then 7 else 6) (-1) 0 0 (kTop K) ((T.length : Int) + 1) cc cv 0 (-1) n (-1) (-1)]).length = T.length + 1 := by rw [List.length_append]; rfl
    refine ⟨pBs_F b (Fa hi F2), by rw [f2, f0], p2, T ++ [rw13 (if tg t x = 64 then 7 else 6) (-1) 0 0 (kTop K) ((T.length : Int) + 1) cc cv 0 (-1) n (-1) (-1)], pg2, ?_, fun k hk f hf _ => ?_, ?_, pKp_app (r := rw13 (if tg t x = 64 then 7 else 6) (-1) 0 0 (kTop K) ((T.length : Int) + 1) cc cv 0 (-1) n (-1) (-1)), by rw [ll]; show T.length < _; omega, by rw [ll]; omega, fun p3 e3 => ⟨1, pW_1 ne ?_⟩, fun f e3 => pFl_0 ne ?_⟩
    · rw [F2.I _ _ (by rintro (⟨w, _⟩ | ⟨w, _⟩) <;> omega), u, ll]; omega
    · by_cases q : k = T.length
      · rw [q, ti_new]
        rcases (show f = 0 ∨ f = 1 ∨ f = 2 ∨ f = 3 ∨ f = 4 ∨ f = 5 ∨ f = 6 ∨ f = 7 ∨ f = 8 ∨ f = 9 ∨ f = 10 ∨ f = 11 ∨ f = 12 by omega) with w | w | w | w | w | w | w | w | w | w | w | w | w <;> rw [w]
        · rw [v0]; rfl
        · rw [n2 1 (by unfold s010; omega), row 1 (by omega)]; rfl
        · rw [n2 2 (by unfold s010; omega), row 2 (by omega)]; rfl
        · rw [n2 3 (by unfold s010; omega), row 3 (by omega)]; rfl
        · rw [n2 4 (by unfold s010; omega), row 4 (by omega)]; rfl
        · rw [n2 5 (by unfold s010; omega), row 5 (by omega)]; rfl
        · rw [n2 6 (by unfold s010; omega), row 6 (by omega)]; rfl
        · rw [n2 7 (by unfold s010; omega), row 7 (by omega)]; rfl
        · rw [n2 8 (by unfold s010; omega), row 8 (by omega)]; rfl
        · rw [n2 9 (by unfold s010; omega), row 9 (by omega)]; rfl
        · rw [v10]; rfl
        · rw [n2 11 (by unfold s010; omega), row 11 (by omega)]; rfl
        · rw [n2 12 (by unfold s010; omega), row 12 (by omega)]; rfl
      · rw [F2.I _ _ (by rintro (⟨w, _⟩ | ⟨w, _⟩) <;> omega), rows k (by omega) f hf, ti_app (by omega)]
    · show ti (T ++ [_]) T.length 5 = _
      rw [ti_new, ll]
      show (T.length : Int) + 1 = _
      omega
    · rw [est, er2, pB_inr e3]; rfl
    · rw [est, er2, pB_inl e3]; rfl
  unfold xIB
  rw [b.2.1, ei, pa.2.2]
  refine ⟨fun c => ⟨b.1, ⟨by omega, by omega⟩, gap (Or.inl c)⟩, fun c => ⟨fun c2 => ?_, fun c2 => ⟨b.1, ⟨by omega, by omega⟩, gap (Or.inr c2)⟩⟩⟩
  rw [if_neg (by omega)] at ep
  refine sp_parseName (by omega) sg xx pa (fun g2 p2 e2 s2 F2 f2 pg2 v1 => qI_i ⟨s2, fun w => absurd w (by omega), fun _ => ?_⟩) (fun g2 f e2 s2 F2 f2 => qI_i ⟨s2, fun _ => k.2 g2 f (pFl_0 ne (by rw [est, ep, pB_inl (pB_inl e2)]; rfl)) s2 (F0.tr (Fa hi F2)) f2, fun w => absurd rfl w⟩)
  have n2 := pRw_n b.1 hi F2
  have b2 := pBs_F b (Fa hi F2)
  rw [pB_inr e2] at ep
  refine sp_parseType (p0 := p0) (p := p2) (name := tg t x) (cc := cc) (cv := cv) (by omega) hL s2 b2 hi ?_ (fun k hk f hf => ?_) (fun f hf => ?_) pg2 (by rw [f2, f0]) ne hc ep hB (fun g3 s3 F3 ts => qI_i ⟨s3, fun w => absurd w (by omega), fun _ => ?_⟩) (fun g3 f fl s3 F3 f3 => qI_i ⟨s3, fun _ => k.2 g3 f fl s3 ((F0.tr (Fa hi F2)).tr F3) f3, fun w => absurd rfl w⟩)
  · rw [F2.I _ _ (by rintro (⟨w, _⟩ | ⟨w, _⟩) <;> omega), u]
  · rw [F2.I _ _ (by rintro (⟨w, _⟩ | ⟨w, _⟩) <;> omega), rows k hk f hf]
  · by_cases q : f = 1
    · rw [q, v1]; rfl
    · rw [n2 f q, row f hf]
      rcases (show f = 0 ∨ f = 2 ∨ f = 3 ∨ f = 4 ∨ f = 5 ∨ f = 6 ∨ f = 7 ∨ f = 8 ∨ f = 9 ∨ f = 10 ∨ f = 11 ∨ f = 12 by omega) with w | w | w | w | w | w | w | w | w | w | w | w <;> rw [w] <;> rfl
  · exact sp_semi (by omega) hi s3 ((F0.tr (Fa hi F2)).tr F3) ts k
theorem sp_parseItem {p : Nat} {K : List Nat} {T : List (List Int)} (hd : 9 ≤ d) (hL : K.length ≤ 3) (hS : zSh h) (cf : pCfg h a t (p, (K, T))) (ne : ¬ pEnd t (p, (K, T))) (hc : K ≠ [] → tg t p ≠ 125) (hB : K.length ≤ 2 → blSp G (d - 1 - 1 - 1) a t (K.length + 1)) (k : iPost Q h a t (p, (K, T))) : wpN G d M_X9_parseItem 0 (zar 0 [vR 211, vI (kTop K), vI (K.length : Int)]) [] h Q := by
  obtain ⟨b, r, pa, f0, l24⟩ := cf
  have la := ztmp b.1
  have pa : pAt h t p := pa
  have r : xRo h a T := r
  have est := pStep_item (t := t) (T := T) hc
  refine vc_X9_parseItem_0 (kTop K) K.length h hS hd ?_
  rw [b.2.1]
  refine ⟨b.1, sp_append (q := kTop K) (by omega) hS b r (fun h2 hi s2 F2 u2 row2 => qI_i ⟨s2, fun _ => ?_, fun w => by omega⟩) (fun c => qI_i ⟨hS, fun w => absurd rfl w, fun _ => ?_⟩)⟩
  · have ei : (T.length : Int).toNat = T.length := by omega
    have F2' : zF4 (pFA a) h h2 := F2.mono (fun b j w => by
      rcases w with w | w
      · exact Or.inr (Or.inl w)
      · exact Or.inr (Or.inr ⟨by omega, by omega⟩))
    have o2 : ∀ j, gI h2 211 j = gI h 211 j := fun j => F2.I _ _ (by rintro (⟨w, _⟩ | w) <;> omega)
    have rows2 : ∀ k, k < T.length → ∀ f, f < 13 → gI h2 (a + 2 + k) f = ti T k f := fun k hk f hf => by rw [F2.I _ _ (by rintro (⟨w, _⟩ | w) <;> omega), r.2 k hk f hf]
    have b2 := pBs_F b F2'
    have pa2 := pAt_F o2 pa
    have x2 : pIx h2 a t T T.length (kTop K) := ⟨b2.1, b2.2.1, b2.2.2, rows2, by rw [row2 4 (by omega)]; rfl, by omega, hi⟩
    have ep0 : pItm t T (kTop K) K.length p = pB (pCd t T (kTop K) T.length p) (fun x => pB (if tg t x.1 = 46 ∨ tg t x.1 = 64 then pGap t (kTop K) T.length x.1 x.2.1 x.2.2 else pB (pNm t T (kTop K) T.length x.1) (fun p2 => pTy t T (kTop K) K.length T.length p2 (tg t x.1) x.2.1 x.2.2)) (fun y => if y.2.2 = true then pB (pSg t 59 y.1) (fun p3 => .inr (p3, y.2)) else .inr y)) := by unfold pItm; rw [if_neg (by omega)]
    rw [pa2.2.2]
    refine ⟨fun c => ?_, fun c => ?_⟩
    · have ec : pCd t T (kTop K) T.length p = .inr (p, (-1, 0)) := by unfold pCd; rw [if_neg c]
      rw [pB_inr ec] at ep0
      have q := sp_pib (Q := Q) (x := p) (cc := -1) (cv := 0) hd hL s2 F2' b2 hi u2 rows2 row2 pa2 (by rw [o2, f0]) ne hc ep0 hB k
      unfold xIB at q
      rw [pa2.2.2] at q
      exact q
    · refine sp_parseCond (by omega) s2 x2 pa2 c (fun h54 y ey s54 F54 f54 pa54 v6 v7 => qI_i ⟨s54, fun _ => ?_, fun w => absurd w (by omega)⟩) (fun h54 f ey s54 F54 f54 => qI_i ⟨s54, fun w => absurd rfl w, fun _ => k.2 h54 f (pFl_0 ne (by rw [est, ep0, pB_inl ey]; rfl)) s54 (F2'.tr (Fa hi F54)) f54⟩)
      rw [pB_inr ey] at ep0
      have n := pRw_n b.1 hi F54
      have q := sp_pib (Q := Q) (x := y.1) (cc := y.2.1) (cv := y.2.2) hd hL s54 (F2'.tr (Fa hi F54)) (pBs_F b2 (Fa hi F54)) hi (by rw [F54.I _ _ (by rintro (⟨w, _⟩ | ⟨w, _⟩) <;> omega), u2]) (fun k hk f hf => by rw [F54.I _ _ (by rintro (⟨w, _⟩ | ⟨w, _⟩) <;> omega), rows2 k hk f hf]) (fun f hf => ?_) pa54 (by rw [f54, o2, f0]) ne hc ep0 hB k
      · exact q
      · by_cases q6 : f = 6
        · rw [q6, v6]; rfl
        · by_cases q7 : f = 7
          · rw [q7, v7]; rfl
          · rw [n f (by unfold s67; omega), row2 f hf]
            rcases (show f = 0 ∨ f = 1 ∨ f = 2 ∨ f = 3 ∨ f = 4 ∨ f = 5 ∨ f = 8 ∨ f = 9 ∨ f = 10 ∨ f = 11 ∨ f = 12 by omega) with w | w | w | w | w | w | w | w | w | w | w <;> rw [w] <;> rfl
  · rw [pa.2.1]
    refine sp_refuse hS (fun h' s' F e4 => qI_i ⟨s', Or.inl rfl, k.2 h' p (pFl_0 ne ?_) s' (Fp F) e4⟩)
    have ep0 : pItm t T (kTop K) K.length p = .inl p := by unfold pItm; rw [if_pos c]
    rw [est, ep0]; rfl
theorem tg_end {p : Nat} (hp : p ≤ t.length) (ht : byT t) (h : tg t p = -1) : t.length ≤ p := by
  by_cases q : p < t.length
  · have e : tg t p = t[p] := by
      unfold tg
      rw [List.getD_eq_getElem?_getD, List.getElem?_eq_getElem q]
      rfl
    have := ht t[p] (List.getElem_mem q)
    omega
  · omega
theorem sp_parseBlock {L : Nat} (hd : 10 ≤ d) (hL : L ≤ 3) (ht : byT t) (hB : L ≤ 2 → blSp G (d - 1 - 1 - 1 - 1) a t (L + 1)) : blSp G d a t L := by
  intro h p K T Q eL hS cf k1 k0
  subst eL
  have loop : ∀ (m n : Nat) (g : zHp) (n0 : Nat) (c : zPC), n + m = 25 → pW t n0 (p, (K, T)) c → c.2.1 = K → pCfg g a t c → zSh g → zF4 (pFA a) h g → pKp T c.2.2 → n ≤ c.2.2.length → wpN G d M_X9_parseBlock 14 [(0, vR 211), (1, vI (kTop K)), (2, vI (K.length : Int)), (3, vI (if K.length = 0 then -1 else 125)), (4, vI (n : Int))] [] g Q := by
    intro m
    induction m with
    | zero =>
      intro n g n0 c hn w ek cf' sg F kp le
      have := cf'.2.2.2.2
      omega
    | succ m ih =>
      intro n g n0 c hn w ek cf' sg F kp le
      obtain ⟨p', K', T'⟩ := c
      have ek : K' = K := ek
      subst ek
      have pa := cf'.2.2.1
      have pa : pAt g t p' := pa
      refine vc_X9_parseBlock_14 (kTop K') K'.length _ n g sg (by omega) (fun y1 y2 y3 y4 g' => y1 = kTop K' ∧ y2 = (K'.length : Int) ∧ y3 = (if K'.length = 0 then -1 else 125) ∧ y4 = ((n + 1 : Nat) : Int) ∧ wpN G d M_X9_parseBlock 14 [(0, vR 211), (1, vI (kTop K')), (2, vI (K'.length : Int)), (3, vI (if K'.length = 0 then -1 else 125)), (4, vI ((n + 1 : Nat) : Int))] [] g' Q) ?_ ⟨fun c1 => by omega, fun c1 => ?_⟩
      · rintro _ _ _ _ _ ⟨z0, z1, z2, z3, z4⟩
        rw [z0, z1, z2, z3]
        exact z4
      · rw [pa.2.2]
        refine ⟨fun c2 => ?_, fun c2 => k1 g n0 (p', (K', T')) w rfl cf' sg F kp (fun z => by rw [if_neg z] at c2; exact c2) (fun z => by rw [if_pos z] at c2; exact c2)⟩
        have ne : ¬ pEnd t (p', (K', T')) := fun e => by
          have e1 : K' = [] := e.1
          have e2 : t.length ≤ p' := e.2
          rw [if_pos (by rw [e1]; rfl)] at c2
          exact c2 (tg_out e2)
        have hc : K' ≠ [] → tg t p' ≠ 125 := fun z => by
          have : K'.length ≠ 0 := fun e => z (List.eq_nil_of_length_eq_zero e)
          rw [if_neg this] at c2
          exact c2
        refine sp_parseItem (by omega) hL sg cf' ne hc hB ⟨fun g2 n2 c2 w2 ek2 cf2 s2 F2 kp2 lt2 => qI_i ⟨s2, fun _ => ⟨by omega, fun x12 e12 _ => ⟨rfl, rfl, rfl, by omega, ?_⟩⟩, fun z => absurd z (by omega)⟩, fun g2 f fl s2 F2 f2 => qI_i ⟨s2, fun z => absurd rfl z, fun _ => k0 g2 f (pFl_of w fl) s2 (F.tr F2) f2⟩⟩
        have lt2 : T'.length < c2.2.2.length := lt2
        have le : n ≤ T'.length := le
        exact ih (n + 1) g2 (n0 + n2) c2 (by omega) (pW_tr w w2) ek2 cf2 s2 (F.tr F2) (pKp_tr kp kp2) (by omega)
  refine vc_X9_parseBlock_0 (kTop K) K.length h hS (by omega) (fun y1 y2 y3 y4 g => y1 = kTop K ∧ y2 = (K.length : Int) ∧ y3 = (if K.length = 0 then -1 else 125) ∧ y4 = ((0 : Nat) : Int) ∧ g = h) ?_ ⟨fun c _ => ⟨rfl, rfl, by rw [if_neg (by omega)], rfl, rfl⟩, fun c _ => ⟨rfl, rfl, by rw [if_pos (by omega)], rfl, rfl⟩⟩
  rintro _ _ _ _ _ ⟨z0, z1, z2, z3, z4⟩
  rw [z0, z1, z2, z3, z4]
  exact loop 25 0 h 0 (p, (K, T)) rfl rfl rfl cf hS zF4.rf ⟨Nat.le_refl _, fun _ _ _ => rfl⟩ (Nat.zero_le _)
theorem sp_block0 (hd : 22 ≤ d) (ht : byT t) : blSp G d a t 0 := by
  refine sp_parseBlock (by omega) (by omega) ht (fun _ => ?_)
  refine sp_parseBlock (by omega) (by omega) ht (fun _ => ?_)
  refine sp_parseBlock (by omega) (by omega) ht (fun _ => ?_)
  exact sp_parseBlock (by omega) (by omega) ht (fun q => absurd q (by omega))
/-- the cells that reading changes: the parser's, and the template that is filled -/
def xPf (a : Nat) (h h' : zHp) : Prop := (∀ b j, ¬ pFA a b j → gI h' b j = gI h b j ∧ gL h' b j = gL h b j) ∧ ∀ b j, ¬ (b = 211 ∧ j = 1) → gR h' b j = gR h b j
theorem sp_faultOf (hd : 23 ≤ d) (hS : zSh h) (hTa : zT 369 a = (108, 2)) (x : pTx h t) (ht : byT t)
    (k1 : ∀ h' T, pDn t (bl t 0, ([], [])) T → zSh h' → xPf a h h' → xRo h' a T → T.length ≤ 24 → Q (some (vI (-1009))) h')
    (k0 : ∀ h' f, pFl t (bl t 0, ([], [])) f → zSh h' → xPf a h h' → Q (some (vI (f : Int))) h') : wpN G d M_X9_faultOf 0 (zar 0 [vR 211, vR a]) [] h Q := by
  have la := ztmp hTa
  refine vc_X9_faultOf_0 a hTa h hS (by omega) (fun h1 e1 => ?_)
  have g1 : gR h1 211 1 = a := by rw [e1, gR_sR, if_pos ⟨rfl, rfl⟩]
  rw [g1]
  refine ⟨hTa, fun h3 e3 h5 e5 => ?_⟩
  have o5 : ∀ b j, ¬ (b = a ∧ j = 1) → ¬ (b = 211 ∧ j = 4) → gI h5 b j = gI h b j := fun b j q1 q2 => by
    rw [e5, gI_sI, if_neg q2, e3, gI_sI, if_neg q1, e1]; rfl
  have r5 : ∀ b j, ¬ (b = 211 ∧ j = 1) → gR h5 b j = gR h b j := fun b j q => by
    rw [e5, e3, e1]
    show gR (sR h 211 1 a) b j = _
    rw [gR_sR, if_neg q]
  have g5 : gR h5 211 1 = a := by
    rw [e5, e3]
    exact g1
  have s5 : zSh h5 := fun b j hx => by
    by_cases q : b = 211 ∧ j = 1
    · rw [q.1, q.2] at hx
      exact absurd (show zshp 211 1 = 0 by decide +kernel) hx
    · rw [r5 b j q]; exact hS b j hx
  have l5 : ∀ b j, gL h5 b j = gL h b j := fun b j => by rw [e5, e3, e1]; rfl
  have X5 : xPf a h h5 := ⟨fun b j q => ⟨o5 b j (fun w => q (Or.inr (Or.inl w))) (fun w => q (Or.inl ⟨w.1, by omega, by omega⟩)), l5 b j⟩, r5⟩
  have x5 : pTx h5 t := by
    refine ⟨?_, ?_⟩
    · rw [← x.1]
      unfold tX
      exact lst_eq (o5 _ _ (by omega) (by omega)) (fun j _ => o5 _ _ (by omega) (by omega))
    · unfold rOk
      rw [o5 _ _ (by omega) (by omega)]
      exact x.2
  have xtr : ∀ {g g' : zHp}, xPf a h g → zF4 (pFA a) g g' → xPf a h g' := fun X F => ⟨fun b j q => ⟨by rw [F.I _ _ q, (X.1 b j q).1], by rw [(F.1 b j q).2, (X.1 b j q).2]⟩, fun b j q => by rw [F.2, X.2 b j q]⟩
  refine sp_moveTo (p := 0) (by omega) s5 x5 (Nat.zero_le _) (fun h8 s8 F8 pa8 => qV_i ⟨s8, ?_⟩)
  obtain ⟨G8, f8⟩ := F34 F8
  have o8 : ∀ b j, b ≠ 211 → gI h8 b j = gI h5 b j := fun b j w => G8.I _ _ (fun w2 => w w2.1)
  have cf : pCfg h8 a t (bl t 0, ([], [])) := by
    refine ⟨⟨hTa, by rw [G8.2, g5], pTx_34 G8 x5⟩, ⟨?_, fun k hk => absurd hk (by show ¬ k < 0; omega)⟩, pa8, ?_, by show 0 ≤ 24; omega⟩
    · show gI h8 a 1 = ((0 : Nat) : Int)
      rw [o8 _ _ (by omega), e5, gI_sI, if_neg (by omega), e3, gI_sI, if_pos ⟨rfl, rfl⟩]; rfl
    · rw [f8, e5, gI_sI, if_pos ⟨rfl, rfl⟩]
  refine (sp_block0 (G := G) (show 22 ≤ d - 1 by omega) ht) h8 (bl t 0) [] [] _ rfl s8 cf (fun h12 n c w ek cf12 s12 F12 kp _ te => qI_i ⟨s12, ?_⟩) (fun h12 f fl s12 F12 f12 => qI_i ⟨s12, ?_⟩)
  · obtain ⟨_, r12, pa12, f12, l12⟩ := cf12
    rw [f12]
    exact k1 h12 c.2.2 ⟨n, c, w, ⟨ek, tg_end pa12.1 ht (te rfl)⟩, rfl⟩ s12 (xtr (xtr X5 (Fp G8)) F12) r12 l12
  · rw [f12]
    exact k0 h12 f fl s12 (xtr (xtr X5 (Fp G8)) F12)
end XPC
