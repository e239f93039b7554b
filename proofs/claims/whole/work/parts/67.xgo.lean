/-! items gone through by the program -/
def xLf : Nat → Nat → Prop := fun b j => (b = 215 ∧ ((1 ≤ j ∧ j ≤ 3) ∨ j = 7)) ∨ (217 ≤ b ∧ b ≤ 340)
def rch (T : List (List Int)) (bs : List Int) (off : Int) (c c' : zLyC) : Prop := ∃ n, lIt T bs off n c = c'
def xBase (h : zHp) (a : Nat) (T : List (List Int)) (bs : List Int) (off : Int) : Prop := zT 369 a = (108, 2) ∧ gR h 215 5 = a ∧ xT h a = T ∧ dOk h 8 ∧ (dv h 8).1 = bs ∧ gI h 215 6 = off
def xPre (g : zHp) (T : List (List Int)) (i : Nat) (K : zLyK) (s : zLyS) : Prop := zSh g ∧ xRl g T s (vis T i K) K ∧ 0 ≤ gI g 215 1 ∧ lB s = 0 ∧ kPath T K = (List.range K.length).map (gI g 337)
def xB (g : zHp) (T : List (List Int)) (bs : List Int) (off : Int) (c0 : zLyC) : Prop := ∃ c', rch T bs off c0 c' ∧ lB c'.2.2 ≠ 0 ∧ xVs g c'.2.2
def xA (g : zHp) (T : List (List Int)) (bs : List Int) (off : Int) (c0 : zLyC) (e : Nat) (K Ko : zLyK) : Prop := ∃ s', rch T bs off c0 (e, (K, s')) ∧ lB s' = 0 ∧ xRl g T s' (vis T e K) Ko ∧ 0 ≤ gI g 215 1
section XGO
variable {G : zG} {d : Nat} {Q : Option zV → zHp → Prop} {h : zHp} {T : List (List Int)} {bs : List Int} {off : Int} {a : Nat}
theorem rch_rf {c : zLyC} : rch T bs off c c := ⟨0, rfl⟩
theorem rch_tr {c c' c'' : zLyC} (x : rch T bs off c c') (y : rch T bs off c' c'') : rch T bs off c c'' := by
  obtain ⟨n, hn⟩ := x
  obtain ⟨m, hm⟩ := y
  exact ⟨n + m, by rw [lIt_add, hn, hm]⟩
theorem rch_1 {c : zLyC} : rch T bs off c (lStep T bs off c) := ⟨1, rfl⟩
theorem rch_inv (ok : tOk T) (hb : bs.length ≤ 200) {c c' : zLyC} (x : rch T bs off c c') (i : cInv T bs off c) : cInv T bs off c' := by
  obtain ⟨n, hn⟩ := x
  rw [← hn]
  exact cInv_it ok hb n c i
theorem lStep_pass {i : Nat} {K : zLyK} {s : zLyS} (hi : i < T.length) (ki : kIn T K i) (s0 : lB s = 0) : lStep T bs off (i, (K, s)) = lPass T bs off i K s := by
  cases K with
  | nil =>
    rw [lStep, if_neg]
    rintro (q | q)
    · exact q s0
    · omega
  | cons e K =>
    obtain ⟨t, c, u⟩ := e
    have h3 := ki.2.2.1
    rw [lStep, if_neg (fun q => q s0), if_neg (by omega)]
theorem xBase_F {g : zHp} (b : xBase h a T bs off) (F : zF4 xLf h g) (hT : T.length ≤ 24) : xBase g a T bs off := by
  obtain ⟨b1, b2, b3, b4, b5, b6⟩ := b
  have la := ztmp b1
  have q1 : ∀ b j, b ≠ 215 → (b < 217 ∨ 340 < b) → gI g b j = gI h b j := fun b j w1 w2 => F.I _ _ (by
    rintro (⟨z, _⟩ | ⟨z, z2⟩) <;> omega)
  have f3 : zF3 (fun b => b = 215 ∨ (217 ≤ b ∧ b ≤ 340)) h g := fun b hb => ⟨fun j => q1 b j (by omega) (by omega), fun j => (F.1 b j (by rintro (⟨z, _⟩ | ⟨z, z2⟩) <;> omega)).2, fun j => F.2 b j⟩
  refine ⟨b1, by rw [F.2, b2], ?_, dOk_f3 f3 (by rintro b ⟨w1, w2⟩ w; omega) b4, ?_, ?_⟩
  · have hu : gI h a 1 ≤ 24 := by
      have := xT_len (h := h) (a := a)
      rw [b3] at this
      omega
    rw [xT_I (h' := g) (h := h) (q1 _ _ (by omega) (by omega)) (fun b j _ _ => q1 _ _ (by omega) (by omega)) hu, b3]
  · rw [dv_f3 8 f3 (by rintro b ⟨w1, w2⟩ w; omega), b5]
  · rw [F.I _ _ (by rintro (⟨_, z⟩ | ⟨z, z2⟩) <;> omega), b6]
theorem xBase_len (b : xBase h a T bs off) : bs.length ≤ 200 := by
  obtain ⟨b1, b2, b3, b4, b5, b6⟩ := b
  have q := dv8_len b4
  have : gI h 9 1 ≤ 200 := b4.1.2
  rw [b5] at q
  omega
theorem sp_makeStep (hS : zSh h) (p0 : 0 ≤ gI h 215 7) (k1 : gI h 215 7 < 400 → Q (some (vI 1)) (sI h 215 7 (gI h 215 7 + 1))) (k0 : 400 ≤ gI h 215 7 → Q (some (vI 0)) (sI h 215 2 3)) : wpN G d M_X6_makeStep 0 (zar 0 [vR 215]) [] h Q :=
  vc_X6_makeStep_0 h hS (Nat.zero_le _) ⟨fun c => ⟨by omega, fun h2 e2 => by rw [e2]; exact k1 c⟩, fun c h4 e4 => by rw [e4]; exact k0 c⟩
theorem sp_align {n : Int} (hS : zSh h) (hn : 0 < n) (hn2 : n ≤ 1000) (o0 : 0 ≤ gI h 215 6) (p0 : gI h 215 6 ≤ gI h 215 3) (p1 : gI h 215 3 ≤ 1000000) (k : ∀ h', h' = sI h 215 3 (alP (gI h 215 3) (gI h 215 6) n) ∨ (h' = h ∧ alP (gI h 215 3) (gI h 215 6) n = gI h 215 3) → Q none h') : wpN G d M_X6_align 0 (zar 0 [vR 215, vI n]) [] h Q := by
  have h1 := Int.emod_nonneg (gI h 215 3 - gI h 215 6) (show n ≠ 0 by omega)
  have h2 := Int.emod_lt_of_pos (gI h 215 3 - gI h 215 6) hn
  have ht : (gI h 215 3 - gI h 215 6).tmod n = (gI h 215 3 - gI h 215 6) % n := Int.tmod_eq_emod_of_nonneg (by omega)
  refine vc_X6_align_0 n h hS (Nat.zero_le _) ⟨fun c => by omega, fun _ => ⟨by omega, hn, fun x3 e3 => ⟨fun c => k h (Or.inr ⟨rfl, ?_⟩), fun c => ⟨by omega, by omega, fun h6 e6 => k h6 (Or.inl ?_)⟩⟩⟩⟩
  · unfold alP
    rw [if_pos (by omega)]
  · rw [e6, e3, ht]
    unfold alP
    rw [if_neg (by omega)]
/-- the position has moved -/
theorem xsetP {h' : zHp} {s : zLyS} {V : Nat → Prop} {K : zLyK} (r : xRl h T s V K) (hn : gI h 215 1 ≤ 60) (o : ∀ b j, ¬ (b = 215 ∧ j = 3) → gI h' b j = gI h b j) (oL : ∀ j, gL h' 338 j = gL h 338 j) : xRl h' T (lSetP s (gI h' 215 3)) V K := by
  obtain ⟨r1, r2, r3, r4, r5, r6, r7⟩ := r
  have fs : xFs h' = xFs h := xFs_I (o _ _ (by omega)) (fun b j _ _ => o _ _ (by omega)) hn
  exact ⟨r1.trans fs.symm, r2.trans (o 215 2 (by omega)).symm, rfl, r4.trans (o 215 7 (by omega)).symm, fun j hj => (r5 j hj).trans (o 339 j (by omega)).symm, fun j hj hx => (r6 j hj hx).trans (o 340 j (by omega)).symm, fun j hj pl => (r7 j hj pl).trans (oL j).symm⟩
/-- the end of an item is set -/
theorem xsetE {h' : zHp} {i : Nat} {s : zLyS} {V : Nat → Prop} {K : zLyK} (r : xRl h T s V K) (hn : gI h 215 1 ≤ 60) (e : h' = sI h 340 i (gI h 215 3)) : xRl h' T (lSetE s i) V K ∧ ∀ b j, ¬ (b = 340 ∧ j = i) → gI h' b j = gI h b j := by
  obtain ⟨r1, r2, r3, r4, r5, r6, r7⟩ := r
  have o : ∀ b j, ¬ (b = 340 ∧ j = i) → gI h' b j = gI h b j := fun b j q => by rw [e, gI_sI, if_neg q]
  have oL : ∀ j, gL h' 338 j = gL h 338 j := fun j => by rw [e]; rfl
  refine ⟨⟨by rw [xFs_I (h' := h') (h := h) (o _ _ (by omega)) (fun b j _ _ => o _ _ (by omega)) hn]; exact r1, by rw [o _ _ (by omega)]; exact r2, by rw [o _ _ (by omega)]; exact r3, by rw [o _ _ (by omega)]; exact r4, fun j hj => by rw [o _ _ (by omega)]; exact r5 j hj, fun j hj hx => ?_, fun j hj pl => by rw [oL]; exact r7 j hj pl⟩, o⟩
  show upF (lE s) i (lP s) j = _
  unfold upF
  by_cases q : j = i
  · rw [if_pos q, e, gI_sI, if_pos ⟨rfl, q⟩, r3]
  · rw [if_neg q, o _ _ (fun w => q w.2)]; exact r6 j hj hx
/-- as above, where the pure machine has set the end already, and the program had not -/
theorem xsetE2 {h' : zHp} {i : Nat} {s : zLyS} {V : Nat → Prop} {K : zLyK} {c u : Int} (r : xRl h T s V ((i, (c, u)) :: K)) (le : lE s i = lP s) (hn : gI h 215 1 ≤ 60) (e : h' = sI h 340 i (gI h 215 3)) : xRl h' T s V K := by
  obtain ⟨r1, r2, r3, r4, r5, r6, r7⟩ := r
  have o : ∀ b j, ¬ (b = 340 ∧ j = i) → gI h' b j = gI h b j := fun b j q => by rw [e, gI_sI, if_neg q]
  have oL : ∀ j, gL h' 338 j = gL h 338 j := fun j => by rw [e]; rfl
  refine ⟨by rw [xFs_I (h' := h') (h := h) (o _ _ (by omega)) (fun b j _ _ => o _ _ (by omega)) hn]; exact r1, by rw [o _ _ (by omega)]; exact r2, by rw [o _ _ (by omega)]; exact r3, by rw [o _ _ (by omega)]; exact r4, fun j hj => by rw [o _ _ (by omega)]; exact r5 j hj, fun j hj hx => ?_, fun j hj pl => by rw [oL]; exact r7 j hj pl⟩
  by_cases q : j = i
  · rw [q, le, e, gI_sI, if_pos ⟨rfl, rfl⟩, r3]
  · rw [o _ _ (fun w => q w.2)]
    refine r6 j hj (fun x hx2 => ?_)
    rcases List.mem_cons.mp hx2 with z | z
    · rw [z]; exact fun w => q w.symm
    · exact hx x z
theorem fs_len {g : zHp} {s : zLyS} (r : lF s = xFs g) (h0 : 0 ≤ gI g 215 1) (hf : fsOk bs s) : gI g 215 1 ≤ 60 := by
  have q := hf.1
  rw [r, xFs_len] at q
  omega
theorem vis_head {i e : Nat} {K : zLyK} {c u : Int} (ki : kIn T K i) (he : i < e) : ∀ r, (vis T i K r ∨ r = i) → vis T e ((i, (c, u)) :: K) r := by
  intro r hr
  rcases hr with q | q
  · refine ⟨by have := q.1; omega, ?_⟩
    rcases q.2 with w | ⟨x, w1, w2⟩
    · exact Or.inl w
    · exact Or.inr ⟨x, List.mem_cons_of_mem _ w1, w2⟩
  · rw [q]
    refine ⟨he, ?_⟩
    rcases kIn_see K i 0 ki with w | ⟨x, w1, w2⟩
    · exact Or.inl w
    · exact Or.inr ⟨x, List.mem_cons_of_mem _ w1, w2⟩
/-- a structure repeated; hGo is what is known of items one level deeper -/
theorem sp_rep {i : Nat} {K : zLyK} {s : zLyS} {c0 : zLyC} (hd : 4 ≤ d) (hS : zSh h) (ok : tOk T) (bb : xBase h a T bs off) (hi : i < T.length) (ki : kIn T K i) (k5 : ti T i 0 = 5) (ic : cInv T bs off c0)
    (rl : xRl h T s (fun r => vis T i K r ∨ r = i) K) (h31 : 0 ≤ gI h 215 1) (s0 : lB s = 0) (hf : fsOk bs s) (ss : 0 ≤ lS s) (le : lE s i = lP s) (pth : kPath T K = (List.range K.length).map (gI h 337))
    (r0 : tCnt T (lW s) i ≤ 0 → rch T bs off c0 ((ti T i 5).toNat, (K, s))) (r1 : 0 < tCnt T (lW s) i → rch T bs off c0 (i + 1, ((i, (tCnt T (lW s) i, 0)) :: K, lTick s)))
    (hGo : ∀ (g : zHp) (j : Nat) (K' : zLyK) (s' : zLyS) (Q' : Option zV → zHp → Prop), K'.length = K.length + 1 → j < T.length → kIn T K' j → cInv T bs off (j, (K', s')) → xBase g a T bs off → xPre g T j K' s' → (∀ g', zSh g' → zF4 xLf g g' → (∀ x, x < K'.length → gI g' 337 x = gI g 337 x) → (xA g' T bs off (j, (K', s')) (ti T j 5).toNat K' K' ∨ xB g' T bs off (j, (K', s'))) → Q' none g') → wpN G (d - 1) M_X6_goThrough 0 (zar 0 [vR 215, vI (j : Int), vI (K'.length : Int)]) [] g Q')
    (k : ∀ g, zSh g → zF4 xLf h g → (∀ x, x < K.length → gI g 337 x = gI h 337 x) → ((∃ s', rch T bs off c0 ((ti T i 5).toNat, (K, s')) ∧ lB s' = 0 ∧ xRl g T s' (vis T (ti T i 5).toNat K) ((i, (0, 0)) :: K) ∧ 0 ≤ gI g 215 1 ∧ lE s' i = lP s') ∨ xB g T bs off c0) → Q none g) :
    wpN G d M_X6_repeatStructure 0 (zar 0 [vR 215, vI (i : Int), vI (K.length : Int)]) [] h Q := by
  have hbs := xBase_len bb
  have l24 := ok.1
  have hTa := bb.1
  have la := ztmp hTa
  have hTi := zitm hTa (show i < 24 by omega)
  have cr := tCnt_rng ok hi (W := lW s)
  have hl := (kIn_len ok hi ki).2 k5
  have ei : (i : Int).toNat = i := by omega
  have edp : (K.length : Int).toNat = K.length := by omega
  obtain ⟨⟨_, ⟨n1, _⟩, _⟩, ⟨_, b2, _⟩, sh⟩ := ok.2.2 i hi
  have e5i := sh.2.1.1
  have e5l := sh.2.1.2.1
  have name := n1 (by omega)
  obtain ⟨nx, nv⟩ := kAt_next ok hi ki
  -- the heads of the two loops
  have go : ∀ (m n : Nat) (g : zHp) (t : zLyS), (n : Int) + m = tCnt T (lW s) i → zSh g → zF4 xLf h g → (∀ x, x < K.length → gI g 337 x = gI h 337 x) → xRl g T t (fun r => vis T i K r ∨ r = i) ((i, (0, 0)) :: K) → 0 ≤ gI g 215 1 → gI g 215 1 ≤ 60 → lB t = 0 → 0 ≤ lS t → ((n : Int) < tCnt T (lW s) i → rch T bs off c0 (i + 1, ((i, (tCnt T (lW s) i, (n : Int))) :: K, lTick t))) → (tCnt T (lW s) i ≤ n → rch T bs off c0 ((ti T i 5).toNat, (K, t))) → lE t i = lP t → wpN G d M_X6_repeatStructure 20 [(0, vR 215), (1, vI (i : Int)), (2, vI (K.length : Int)), (3, vR (a + 2 + i)), (4, vI (tCnt T (lW s) i)), (5, vI (n : Int))] [] g Q := by
    intro m
    induction m with
    | zero =>
      intro n g t hn sg F pg rg g31 g60 tb ts q1 q2 le'
      refine vc_X6_repeatStructure_20 i K.length (a + 2 + i) hTi _ n g sg hd (fun _ _ _ _ _ _ _ => False) (fun _ _ _ _ _ _ _ q => q.elim) ⟨fun c => k g sg F pg (Or.inl ⟨t, q2 c, tb, xRl_mono rg nv, g31, le'⟩), fun c => by omega⟩
    | succ m ih =>
      intro n g t hn sg F pg rg g31 g60 tb ts q1 q2 le'
      have ic1 := rch_inv ok hbs (q1 (by omega)) ic
      have bg := xBase_F bb F l24
      obtain ⟨x1, x2, x3, x4, x5, x6, x7⟩ := rg
      have inner : ∀ (m2 y : Nat) (g2 : zHp), y + m2 = (ti T i 5).toNat → zSh g2 → zF4 xLf h g2 → (∀ x, x < K.length → gI g2 337 x = gI h 337 x) → gI g2 337 K.length = 1000 * (n : Int) + ti T i 1 → ((∃ t2, rch T bs off c0 (y, ((i, (tCnt T (lW s) i, (n : Int))) :: K, t2)) ∧ lB t2 = 0 ∧ xRl g2 T t2 (vis T y ((i, (tCnt T (lW s) i, (n : Int))) :: K)) ((i, (tCnt T (lW s) i, (n : Int))) :: K) ∧ 0 ≤ gI g2 215 1) ∨ xB g2 T bs off c0) → wpN G d M_X6_repeatStructure 56 [(0, vR 215), (1, vI (i : Int)), (2, vI (K.length : Int)), (3, vR (a + 2 + i)), (4, vI (tCnt T (lW s) i)), (5, vI (n : Int)), (6, vI (y : Int))] [] g2 Q := by
        intro m2
        induction m2 using Nat.strongRecOn with
        | _ m2 ih2 =>
        intro y g2 hy s2 F2 pg2 pn alt
        have b2g := xBase_F bb F2 l24
        have tE : gI g2 (a + 2 + i) 5 = ti T i 5 := xtt b2g.2.2.1 hi (by omega)
        rcases alt with ⟨t2, w1, w2, w3, w4⟩ | brk
        · have ic2 := rch_inv ok hbs w1 ic
          have ka : kAt T ((i, (tCnt T (lW s) i, (n : Int))) :: K) y := (ic2.2 w2).1
          have r0' : gI g2 215 2 = 0 := by rw [← w3.2.1]; exact w2
          have g60' := fs_len w3.1 w4 ic2.1
          refine vc_X6_repeatStructure_56 i K.length (a + 2 + i) hTi _ n y g2 s2 hd (fun y1 y2 y3 y4 y5 g' => y1 = (i : Int) ∧ y2 = (K.length : Int) ∧ y3 = a + 2 + i ∧ y4 = tCnt T (lW s) i ∧ y5 = ((n + 1 : Nat) : Int) ∧ wpN G d M_X6_repeatStructure 20 [(0, vR 215), (1, vI (i : Int)), (2, vI (K.length : Int)), (3, vR (a + 2 + i)), (4, vI (tCnt T (lW s) i)), (5, vI ((n + 1 : Nat) : Int))] [] g' Q) ?_ (fun y1 y2 y3 y4 y5 y6 g' => y1 = (i : Int) ∧ y2 = (K.length : Int) ∧ y3 = a + 2 + i ∧ y4 = tCnt T (lW s) i ∧ y5 = (n : Int) ∧ wpN G d M_X6_repeatStructure 56 [(0, vR 215), (1, vI (i : Int)), (2, vI (K.length : Int)), (3, vR (a + 2 + i)), (4, vI (tCnt T (lW s) i)), (5, vI (n : Int)), (6, vI y6)] [] g' Q) ?_ ?_
          · rintro _ _ _ _ _ _ ⟨z0, z1, z2, z3, z4, z5⟩
            rw [z0, z1, z2, z3, z4]
            exact z5
          · rintro _ _ _ _ _ _ _ ⟨z0, z1, z2, z3, z4, z5⟩
            rw [z0, z1, z2, z3, z4]
            exact z5
          · rw [tE]
            have hy2 := ka.2.1
            refine ⟨fun c1 => ⟨fun _ => ⟨by omega, fun x3 e3 _ => ⟨rfl, rfl, rfl, rfl, by omega, ?_⟩⟩, fun c2 => absurd r0' c2⟩, fun c1 => ⟨fun c2 => absurd r0' c2, fun _ => ⟨by omega, ?_⟩⟩⟩
            · have ye : (y : Int) = ti T i 5 := by omega
              have yn : y = (ti T i 5).toNat := by omega
              refine ih (n + 1) g2 (lSetE t2 i) (by omega) s2 F2 pg2 ?_ w4 g60' w2 (ic2.2 w2).2.1.1.1 (fun c => ?_) (fun c => ?_) ?_
              · obtain ⟨v1, v2, v3, v4, v5, v6, v7⟩ := w3
                have up : ∀ r, (vis T i K r ∨ r = i) → vis T y ((i, (tCnt T (lW s) i, (n : Int))) :: K) r := vis_head ki (by omega)
                refine ⟨v1, v2, v3, v4, fun j hj => v5 j (up j hj), fun j hj hx => ?_, fun j hj pl => v7 j (up j hj) pl⟩
                have ne : j ≠ i := fun w => hx (i, (0, 0)) (by simp) w.symm
                show upF (lE t2) i (lP t2) j = _
                unfold upF
                rw [if_neg ne]
                refine v6 j (up j hj) (fun x hx2 => ?_)
                rcases List.mem_cons.mp hx2 with z | z
                · rw [z]; exact fun w => ne w.symm
                · exact hx x (List.mem_cons_of_mem _ z)
              · have st : lStep T bs off (y, ((i, (tCnt T (lW s) i, (n : Int))) :: K, t2)) = (i + 1, ((i, (tCnt T (lW s) i, (n : Int) + 1)) :: K, lTick (lSetE t2 i))) := by
                  rw [lStep, if_neg (fun q => q w2), if_pos ye, if_pos (by omega)]
                have q := rch_tr w1 rch_1
                rw [st] at q
                exact q
              · have st : lStep T bs off (y, ((i, (tCnt T (lW s) i, (n : Int))) :: K, t2)) = (y, (K, lSetE t2 i)) := by
                  rw [lStep, if_neg (fun q => q w2), if_pos ye, if_neg (by omega)]
                have q := rch_tr w1 rch_1
                rw [st, yn] at q
                exact q
              · show upF (lE t2) i (lP t2) i = lP t2
                unfold upF
                rw [if_pos rfl]
            · obtain ⟨yl, yk⟩ := kAt_pass ok ka (by omega)
              have ey := (ok.2.2 y yl).2.2.2.1
              have eylt := (kAt_next ok yl yk).1.2.1
              have pth2 : kPath T ((i, (tCnt T (lW s) i, (n : Int))) :: K) = (List.range (K.length + 1)).map (gI g2 337) := by
                rw [List.range_succ, List.map_append]
                have e1 : kPath T ((i, (tCnt T (lW s) i, (n : Int))) :: K) = kPath T K ++ [1000 * (n : Int) + ti T i 1] := by
                  unfold kPath
                  rw [List.reverse_cons, List.map_append]
                  rfl
                rw [e1, pth]
                congr 1
                · exact List.map_congr_left (fun x hx => (pg2 x (List.mem_range.mp hx)).symm)
                · show _ = [gI g2 337 K.length]
                  rw [pn]
              have l1 : ((K.length : Int) + 1) = ((((i, (tCnt T (lW s) i, (n : Int))) :: K).length : Nat) : Int) := by show (K.length : Int) + 1 = ((K.length + 1 : Nat) : Int); omega
              rw [l1]
              refine hGo g2 y ((i, (tCnt T (lW s) i, (n : Int))) :: K) t2 _ rfl yl yk ic2 b2g ⟨s2, w3, w4, w2, pth2⟩ (fun g' sg' F' pg' alt' => qV_i ⟨sg', by omega, ?_⟩)
              have F3 := F2.tr F'
              have b3g := xBase_F bb F3 l24
              have tY : gI g' (a + 2 + y) 5 = ti T y 5 := xtt b3g.2.2.1 yl (by omega)
              rw [b3g.2.1, show (y : Int).toNat = y by omega, tY]
              refine ⟨hTa, ⟨by omega, by omega⟩, sp_max sg' (fun z hz => qI_i ⟨sg', fun _ => ⟨rfl, rfl, rfl, rfl, rfl, ?_⟩⟩)⟩
              have zn : z = (((ti T y 5).toNat : Nat) : Int) := by omega
              rw [zn]
              refine ih2 ((ti T i 5).toNat - (ti T y 5).toNat) (by omega) (ti T y 5).toNat g' (by omega) sg' F3 (fun x hx => by rw [pg' x (by show x < K.length + 1; omega), pg2 x hx]) (by rw [pg' _ (by show K.length < K.length + 1; omega), pn]) ?_
              rcases alt' with ⟨t3, u1, u2, u3, u4⟩ | ⟨c', u1, u2, u3⟩
              · exact Or.inl ⟨t3, rch_tr w1 u1, u2, u3, u4⟩
              · exact Or.inr ⟨c', rch_tr w1 u1, u2, u3⟩
        · have nb : gI g2 215 2 ≠ 0 := by
            obtain ⟨c', u1, u2, u3⟩ := brk
            have e : lB c'.2.2 = gI g2 215 2 := congrArg (fun x => x.2.1) u3.1
            rw [← e]; exact u2
          have fin : Q none g2 := k g2 s2 F2 pg2 (Or.inr brk)
          exact vc_X6_repeatStructure_56 i K.length (a + 2 + i) hTi _ n y g2 s2 hd (fun _ _ _ _ _ _ => False) (fun _ _ _ _ _ _ q => q.elim) (fun _ _ _ _ _ _ _ => False) (fun _ _ _ _ _ _ _ q => q.elim) ⟨fun c1 => ⟨fun c2 => absurd c2 nb, fun _ => fin⟩, fun c1 => ⟨fun _ => ⟨fun c2 => absurd c2 nb, fun _ => fin⟩, fun c2 => absurd c2 nb⟩⟩
      refine vc_X6_repeatStructure_20 i K.length (a + 2 + i) hTi _ n g sg hd (fun y1 y2 y3 y4 y5 y6 g' => y1 = (i : Int) ∧ y2 = (K.length : Int) ∧ y3 = a + 2 + i ∧ y4 = tCnt T (lW s) i ∧ y5 = (n : Int) ∧ wpN G d M_X6_repeatStructure 56 [(0, vR 215), (1, vI (i : Int)), (2, vI (K.length : Int)), (3, vR (a + 2 + i)), (4, vI (tCnt T (lW s) i)), (5, vI (n : Int)), (6, vI y6)] [] g' Q) ?_ ⟨fun c => by omega, fun c => sp_makeStep sg (by rw [← x4]; exact ts) (fun c7 => ?_) (fun c7 => ?_)⟩
      · rintro _ _ _ _ _ _ _ ⟨z0, z1, z2, z3, z4, z5⟩
        rw [z0, z1, z2, z3, z4]
        exact z5
      · have lt : lS t < 400 := by rw [x4]; exact c7
        have tk : lTick t = lMk (lF t) (lB t) (lP t) (lS t + 1) (lW t) (lG t) (lE t) := by unfold lTick; rw [if_neg (by omega)]
        have o3 : ∀ b j, ¬ (b = 215 ∧ j = 7) → gI (sI g 215 7 (gI g 215 7 + 1)) b j = gI g b j := fun b j q => by rw [gI_sI, if_neg q]
        have F3 : zF4 xLf g (sI g 215 7 (gI g 215 7 + 1)) := zF4.sI (Or.inl ⟨rfl, Or.inr rfl⟩)
        refine qI_i ⟨F3.Sh sg, fun z => absurd z (by omega), fun _ => ?_⟩
        have t1 : gI (sI g 215 7 (gI g 215 7 + 1)) (a + 2 + i) 1 = ti T i 1 := by rw [o3 _ _ (by omega)]; exact xtt bg.2.2.1 hi (by omega)
        rw [t1]
        refine ⟨by omega, by omega, ⟨by omega, by omega⟩, fun h7 e7 => ⟨by omega, fun x9 e9 s7 => ⟨rfl, rfl, rfl, rfl, rfl, ?_⟩⟩⟩
        rw [edp] at e7
        have F7 : zF4 xLf g h7 := by rw [e7]; exact F3.tr (zF4.sI (Or.inr ⟨by omega, by omega⟩))
        have o7 : ∀ b j, ¬ (b = 215 ∧ j = 7) → ¬ (b = 337 ∧ j = K.length) → gI h7 b j = gI g b j := fun b j q1 q2 => by rw [e7, gI_sI, if_neg q2, o3 _ _ q1]
        rw [e9, show (i : Int) + 1 = ((i + 1 : Nat) : Int) by omega]
        have inn : ∀ r, vis T (i + 1) ((i, (tCnt T (lW s) i, (n : Int))) :: K) r → vis T i K r ∨ r = i := (kAt_in ok hi k5 ki (c := tCnt T (lW s) i) (u := (n : Int)) (by omega)).2
        refine inner ((ti T i 5).toNat - (i + 1)) (i + 1) h7 (by omega) s7 (F.tr F7) (fun x hx => by rw [o7 _ _ (by omega) (by omega), pg x hx]) (by rw [e7, gI_sI, if_pos ⟨rfl, rfl⟩]) (Or.inl ⟨lTick t, q1 (by omega), by rw [tk]; exact tb, ?_, by rw [o7 _ _ (by omega) (by omega)]; exact g31⟩)
        rw [tk]
        refine ⟨?_, ?_, ?_, ?_, fun j hj => ?_, fun j hj hx => ?_, fun j hj pl => ?_⟩
        · show lF t = _
          rw [x1, xFs_I (h' := h7) (h := g) (o7 _ _ (by omega) (by omega)) (fun b j _ _ => o7 _ _ (by omega) (by omega)) g60]
        · show lB t = _
          rw [x2, o7 _ _ (by omega) (by omega)]
        · show lP t = _
          rw [x3, o7 _ _ (by omega) (by omega)]
        · show lS t + 1 = _
          rw [x4, e7, gI_sI, if_neg (by omega), gI_sI, if_pos ⟨rfl, rfl⟩]
        · show lG t j = _
          rw [x5 j (inn j hj), o7 _ _ (by omega) (by omega)]
        · show lE t j = _
          rw [x6 j (inn j hj) (fun x hx2 => by
            rcases List.mem_cons.mp hx2 with z | z
            · rw [z]; exact hx (i, (tCnt T (lW s) i, (n : Int))) (by simp)
            · exact hx x (List.mem_cons_of_mem _ z)), o7 _ _ (by omega) (by omega)]
        · show lW t j = _
          have : gL h7 338 j = gL g 338 j := by rw [e7]; rfl
          rw [x7 j (inn j hj) pl, this]
      · have lt : 400 ≤ lS t := by rw [x4]; exact c7
        have tk : lTick t = lSetB t 3 := by unfold lTick; rw [if_pos lt]
        have o3 : ∀ b j, ¬ (b = 215 ∧ j = 2) → gI (sI g 215 2 3) b j = gI g b j := fun b j q => by rw [gI_sI, if_neg q]
        have F3 : zF4 xLf g (sI g 215 2 3) := zF4.sI (Or.inl ⟨rfl, Or.inl ⟨by omega, by omega⟩⟩)
        refine qI_i ⟨F3.Sh sg, fun _ => k _ (F3.Sh sg) (F.tr F3) (fun x hx => by rw [o3 _ _ (by omega), pg x hx]) (Or.inr ⟨_, q1 (by omega), ?_, ?_, ?_⟩), fun z => absurd rfl z⟩
        · rw [tk]; show ¬ (3 : Int) = 0; omega
        · rw [tk]
          show (lF t, ((3 : Int), lP t)) = _
          rw [x1, x3, xFs_I (h' := sI g 215 2 3) (h := g) (o3 _ _ (by omega)) (fun b j _ _ => o3 _ _ (by omega)) g60, o3 215 3 (by omega), gI_sI, if_pos ⟨rfl, rfl⟩]
        · rw [o3 _ _ (by omega)]; exact g31
  refine vc_X6_repeatStructure_0 i K.length h hS hd (fun y1 y2 y3 y4 y5 g => y1 = (i : Int) ∧ y2 = (K.length : Int) ∧ y3 = a + 2 + i ∧ y4 = tCnt T (lW s) i ∧ y5 = ((0 : Nat) : Int) ∧ g = h) ?_ ?_
  · rintro _ _ _ _ _ _ ⟨z0, z1, z2, z3, z4, z5⟩
    rw [z0, z1, z2, z3, z4, z5]
    refine go (tCnt T (lW s) i).toNat 0 h s (by omega) hS zF4.rf (fun _ _ => rfl) ?_ h31 (fs_len rl.1 h31 hf) s0 ss (fun c => r1 c) (fun c => r0 c) le
    obtain ⟨x1, x2, x3, x4, x5, x6, x7⟩ := rl
    exact ⟨x1, x2, x3, x4, x5, fun j hj hx => x6 j hj (fun x hx2 => hx x (List.mem_cons_of_mem _ hx2)), x7⟩
  · rw [bb.2.1, ei]
    refine ⟨hTa, ⟨by omega, by omega⟩, sp_repOf (W := lW s) (by omega) hS hTa bb.2.2.1 ok hi (fun c c2 => ?_) (qI_i ⟨hS, fun _ => ⟨rfl, rfl, rfl, rfl, rfl, rfl⟩⟩)⟩
    have hr : tRef T i (ti T i 9) := by
      rcases b2 with q | ⟨_, _, q | ⟨q, _⟩⟩
      · omega
      · omega
      · exact q
    exact rl.2.2.2.2.2.2 _ (Or.inl (vis_ref hi ki hr)) hr.2.2.1
end XGO
