/-! fields of the model -/
theorem zor8 {v b : Int} (v0 : 0 ≤ v) (v1 : v < 16777216) (b0 : 0 ≤ b) (b1 : b ≤ 255) : zorL (zshl v 8) b = 256 * v + b := by
  have e1 := zshl_v8 (v := v.toNat) (by omega)
  have e2 := zorL_b (v := v.toNat) (b := b.toNat) (by omega) (by omega)
  rw [show ((v.toNat : Nat) : Int) = v by omega] at e1
  rw [show ((b.toNat : Nat) : Int) = b by omega] at e2
  rw [e1, e2]
  omega
theorem fVal_k {f : Nat → Int} {s sz kind lit : Int} (hk : kind ≠ 1) : fVal f s sz kind lit = fVal f s sz 0 lit := by
  unfold fVal
  rw [if_neg (fun q => hk q.1), if_neg (fun q => by omega)]
theorem zshl_half {sz : Int} (h : fSz sz) : zshl 1 (8 * sz - 1) = fSpan sz / 2 := by
  unfold fSpan
  rcases h with e | e | e <;> rw [e]
  · exact zshl_7
  · exact zshl_15
  · exact zshl_31
theorem fSpan_half {sz : Int} (h : fSz sz) : 2 * (fSpan sz / 2) = fSpan sz := by
  rcases fSpan_v h with e | e | e <;> rw [e] <;> rfl
def wrF (f : Nat → Int) (s sz lit v : Int) : Nat → Nat → Int
  | 0, j => f j
  | k + 1, j => if j = (wrP s sz lit k).toNat then byteN v k else wrF f s sz lit v k j
/-- the bytes behind a write of a field -/
def wrL (bs : List Int) (s sz lit v : Int) : List Int := lst (wrF (tg bs) s sz lit v sz.toNat) bs.length
theorem wrF_congr {f g : Nat → Int} {s sz lit v n : Int} (e : ∀ j : Nat, (j : Int) < n → f j = g j) : ∀ (k j : Nat), (j : Int) < n → wrF f s sz lit v k j = wrF g s sz lit v k j
  | 0, j, hj => e j hj
  | k + 1, j, hj => by rw [wrF, wrF, wrF_congr e k j hj]
theorem wrF_lst {f : Nat → Int} {s sz lit v n : Int} (h0 : 0 ≤ n) : lst (wrF f s sz lit v sz.toNat) n = wrL (lst f n) s sz lit v := by
  unfold wrL
  refine lst_eq (by rw [lst_len]; omega) (fun j hj => wrF_congr (n := n) (fun i hi => ?_) _ j hj)
  have := lst_tg (f := f) (n := n) (i := (i : Int)) (by omega) hi
  exact this.symm
theorem zshr_pow {v : Int} (hv : zIL v) {k : Nat} (hk : k < 4) : zshr (v / 256 ^ k) 8 = v / 256 ^ (k + 1) ∧ w32 (zandL (v / 256 ^ k) 255) = byteN v k := by
  have g1 := hv.1
  have g2 := hv.2
  have key : ∀ x : Int, zIL x → w32 (zandL x 255) = x % 256 := fun x hx => by
    rw [zandL_255 hx, w32_of ⟨by omega, by omega⟩]
  unfold byteN
  rcases (show k = 0 ∨ k = 1 ∨ k = 2 ∨ k = 3 by omega) with rfl | rfl | rfl | rfl
  · have hz : zIL (v / 256 ^ 0) := by simpa using hv
    exact ⟨by rw [zshr_8 hz]; simp, by rw [key _ hz]; rfl⟩
  · have hz : zIL (v / 256 ^ 1) := ⟨by omega, by omega⟩
    exact ⟨by rw [zshr_8 hz]; omega, by rw [key _ hz]; rfl⟩
  · have hz : zIL (v / 256 ^ 2) := ⟨by omega, by omega⟩
    exact ⟨by rw [zshr_8 hz]; omega, by rw [key _ hz]; rfl⟩
  · have hz : zIL (v / 256 ^ 3) := ⟨by omega, by omega⟩
    exact ⟨by rw [zshr_8 hz]; omega, by rw [key _ hz]; rfl⟩
/-- the bytes of the model's live document -/
theorem md_by {h : zHp} (k : mdOk h 344 0) : byOk (gI h 344) (gI h 344 200) := by
  intro j hj
  have := k.2.1 j (by have : gI h 344 200 ≤ 200 := k.1.2; omega)
  rw [Nat.zero_add] at this
  exact this
def mIn (h : zHp) (i : Nat) : Prop := fSz (gI h 355 i) ∧ 0 ≤ gI h 354 i ∧ gI h 354 i + gI h 355 i ≤ gI h 344 200
def mCk (h : zHp) (i : Nat) : Prop := (gI h 356 i = 2 ∨ gI h 356 i = 3 ∨ gI h 356 i = 4) ∧ 0 ≤ gI h 358 i ∧ gI h 358 i ≤ gI h 359 i ∧ gI h 359 i ≤ gI h 344 200
def mfOk (h : zHp) (i : Nat) : Prop := mIn h i ∧ (gI h 356 i = 0 ∨ gI h 356 i = 1 ∨ mCk h i) ∧ (gI h 357 i = 0 ∨ gI h 357 i = 1)
def mV (h : zHp) (i : Nat) : Int := fVal (gI h 344) (gI h 354 i) (gI h 355 i) (gI h 356 i) (gI h 357 i)
def mE (h : zHp) (i : Nat) : Int := ckX (gI h 356 i) (gI h 344) (gI h 358 i) (gI h 359 i)
def mWrong (h : zHp) (i : Nat) : Prop := 2 ≤ gI h 356 i ∧ mV h i ≠ mE h i
section MF
variable {G : zG} {d : Nat} {Q : Option zV → zHp → Prop} {h : zHp}
theorem sp_read {s sz lit sg : Int} (hS : zSh h) (h8 : mdOk h 344 0) (f1 : fSz sz) (f2 : 0 ≤ s) (f3 : s + sz ≤ gI h 344 200) (hl : lit = 0 ∨ lit = 1) (hg : sg = 0 ∨ sg = 1) (k : ∀ r, r = fVal (gI h 344) s sz sg lit → Q (some (vL r)) h) : wpN G d M_X11_read 0 (zar 0 [vR 343, vI s, vI sz, vI lit, vI sg]) [] h Q := by
  have hb := md_by h8
  have w2 : gI h 344 200 ≤ 200 := h8.1.2
  have hs4 : sz ≤ 4 := by rcases f1 with e | e | e <;> omega
  have hs0 : 1 ≤ sz := by rcases f1 with e | e | e <;> omega
  have loop : ∀ (n j : Nat), j + n = sz.toNat → wpN G d M_X11_read 6 [(0, vR 343), (1, vI s), (2, vI sz), (3, vI lit), (4, vI sg), (5, vL (rdA (gI h 344) s sz lit j)), (7, vI (j : Int))] [] h Q := by
    intro n
    induction n with
    | zero =>
      intro j hj
      have ej : j = sz.toNat := by omega
      have bd := rdA_bd (lit := lit) hb f2 f3 j (by omega)
      have bp : (256 : Int) ^ j ≤ 4294967296 := by
        rcases (show j = 1 ∨ j = 2 ∨ j = 4 by rcases f1 with e | e | e <;> omega) with rfl | rfl | rfl <;> decide
      have sp := zshl_half f1
      have spv := fSpan_v f1
      have sh := fSpan_half f1
      refine vc_X11_read_6 s sz lit sg _ j h hS (Nat.zero_le _) (fun _ _ _ _ _ _ _ => False) (fun _ _ _ _ _ _ _ q => q.elim) ⟨fun c => ⟨by omega, by omega, fun x2 e2 => ⟨fun c2 => k _ ?_, fun c2 => ⟨fun c3 => k _ ?_, fun c3 => ⟨by rw [e2, sp]; omega, by rw [e2, sp]; omega, k _ ?_⟩⟩⟩⟩, fun c => by omega⟩
      · unfold fVal; rw [if_neg (fun z => by omega), ej]
      · rw [e2, sp, ej] at c3
        unfold fVal; rw [if_neg (by omega), ej]
      · rw [e2, sp, ej] at c3
        unfold fVal; rw [if_pos ⟨by omega, c3⟩, ej, e2, sp, sh]
    | succ n ih =>
      intro j hj
      have bd := rdA_bd (lit := lit) hb f2 f3 j (by omega)
      have bp : (256 : Int) ^ j ≤ 16777216 := by
        rcases (show j = 0 ∨ j = 1 ∨ j = 2 ∨ j = 3 by omega) with rfl | rfl | rfl | rfl <;> decide
      refine vc_X11_read_6 s sz lit sg _ j h hS (Nat.zero_le _) (fun y1 y2 y3 y4 y5 y7 h' => y1 = s ∧ y2 = sz ∧ y3 = lit ∧ y4 = sg ∧ y5 = rdA (gI h 344) s sz lit (j + 1) ∧ y7 = ((j + 1 : Nat) : Int) ∧ h' = h) ?_ ⟨fun c => by omega, fun c => ⟨fun c0 => ?_, fun c0 => ?_⟩⟩
      · rintro _ _ _ _ _ _ _ ⟨e0, e1, e2, e3, e4, e5, e6⟩
        rw [e0, e1, e2, e3, e4, e5, e6]
        exact ih (j + 1) (by omega)
      · have e : rdA (gI h 344) s sz lit (j + 1) = 256 * rdA (gI h 344) s sz lit j + gI h 344 (s + j).toNat := by rw [rdA, if_pos c0]
        have q := hb (s + j).toNat (by omega)
        exact ⟨by omega, by omega, fun x7 e7 x9 e9 => ⟨by omega, fun x11 e11 _ => ⟨rfl, rfl, rfl, rfl, by rw [e9, e7, zor8 bd.1 (by omega) q.1 q.2, e], by omega, rfl⟩⟩⟩
      · have e : rdA (gI h 344) s sz lit (j + 1) = 256 * rdA (gI h 344) s sz lit j + gI h 344 (s + (sz - 1 - j)).toNat := by rw [rdA, if_neg c0]
        have q := hb (s + (sz - 1 - j)).toNat (by omega)
        refine ⟨by omega, by omega, by omega, by omega, fun x7 e7 x9 e9 => ⟨by omega, fun x11 e11 _ => ⟨rfl, rfl, rfl, rfl, ?_, by omega, rfl⟩⟩⟩
        rw [show s + sz - 1 - (j : Int) = s + (sz - 1 - j) by omega] at e7
        rw [e9, e7, zor8 bd.1 (by omega) q.1 q.2, e]
  refine vc_X11_read_0 s sz lit sg h hS (Nat.zero_le _) (fun y1 y2 y3 y4 y5 y7 h' => y1 = s ∧ y2 = sz ∧ y3 = lit ∧ y4 = sg ∧ y5 = 0 ∧ y7 = 0 ∧ h' = h) ?_ (fun _ => ⟨rfl, rfl, rfl, rfl, rfl, rfl, rfl⟩)
  rintro _ _ _ _ _ _ _ ⟨e0, e1, e2, e3, e4, e5, e6⟩
  rw [e0, e1, e2, e3, e4, e5, e6]
  exact loop sz.toNat 0 (by omega)
theorem sp_valueOf {i : Nat} (hd : 1 ≤ d) (hS : zSh h) (h8 : mdOk h 344 0) (hi : i < 60) (hf : mIn h i) (hl : gI h 357 i = 0 ∨ gI h 357 i = 1) (k : ∀ r, r = mV h i → Q (some (vL r)) h) : wpN G d M_X11_valueOf 0 (zar 0 [vR 343, vI (i : Int)]) [] h Q := by
  obtain ⟨f1, f2, f3⟩ := hf
  have b : (0 : Int) ≤ (i : Int) ∧ (i : Int) < ((60 : Nat) : Int) := by omega
  unfold mV at k
  refine vc_X11_valueOf_0 i h hS hd ⟨b, b, b, ?_⟩
  rw [show (i : Int).toNat = i by omega]
  refine ⟨fun c => ⟨b, fun c1 => sp_read hS h8 f1 f2 f3 (Or.inl rfl) (Or.inl rfl) (fun r er => qL_i ⟨hS, k _ ?_⟩), fun c1 => sp_read hS h8 f1 f2 f3 (Or.inl rfl) (Or.inr rfl) (fun r er => qL_i ⟨hS, k _ ?_⟩)⟩, fun c => ⟨b, fun c1 => sp_read hS h8 f1 f2 f3 (Or.inr rfl) (Or.inl rfl) (fun r er => qL_i ⟨hS, k _ ?_⟩), fun c1 => sp_read hS h8 f1 f2 f3 (Or.inr rfl) (Or.inr rfl) (fun r er => qL_i ⟨hS, k _ ?_⟩)⟩⟩
  · rw [er, show gI h 357 i = 0 by omega, fVal_k c1]
  · rw [er, show gI h 357 i = 0 by omega, c1]
  · rw [er, c, fVal_k c1]
  · rw [er, c, c1]
theorem sp_adds {x kind b : Int} (hS : zSh h) (hk : kind = 2 ∨ kind = 3 ∨ kind = 4) (h0 : 0 ≤ x) (h1 : x < 65536) (b0 : 0 ≤ b) (b1 : b ≤ 255) (k : Q (some (vI (ckA kind x b))) h) : wpN G d M_X11_adds 0 (zar 0 [vI x, vI kind, vI b]) [] h Q := by
  have hr := xor16 (a := x.toNat) (b := 256 * b.toNat) (by omega) (by omega)
  have loop : ∀ (n j : Nat), j + n = 8 → kind = 4 → wpN G d M_X11_adds 35 [(0, vI x), (1, vI kind), (2, vI b), (3, vI ((crI j (x.toNat ^^^ (256 * b.toNat)) : Nat) : Int)), (4, vI (j : Int))] [] h Q := by
    intro n
    induction n with
    | zero =>
      intro j hj h4
      have ej : j = 8 := by omega
      unfold ckA cF at k
      rw [if_neg (by omega), if_neg (by omega)] at k
      refine vc_X11_adds_35 x kind b _ j h hS (Nat.zero_le _) (fun _ _ _ _ _ _ => False) (fun _ _ _ _ _ _ q => q.elim) ⟨fun c => by rw [ej]; exact k, fun c => by omega⟩
    | succ n ih =>
      intro j hj h4
      have bd := crI_lt hr j
      have dbl : (((crI j (x.toNat ^^^ (256 * b.toNat)) : Nat) : Int) * 2).tmod 65536 = ((2 * crI j (x.toNat ^^^ (256 * b.toNat)) % 65536 : Nat) : Int) := by
        rw [Int.mul_comm]; exact dbl_i
      refine vc_X11_adds_35 x kind b _ j h hS (Nat.zero_le _) (fun y0 y1 y2 y3 y4 h' => y0 = x ∧ y1 = kind ∧ y2 = b ∧ y3 = ((crI (j + 1) (x.toNat ^^^ (256 * b.toNat)) : Nat) : Int) ∧ y4 = ((j + 1 : Nat) : Int) ∧ h' = h) ?_ ⟨fun c => by omega, fun c => ⟨fun c1 => ⟨by omega, fun x3 e3 => ⟨by omega, fun z ez _ => ⟨rfl, rfl, rfl, ?_, by omega, rfl⟩⟩⟩, fun c1 => ⟨by omega, fun x8 e8 x11 e11 => ⟨by omega, fun z ez _ => ⟨rfl, rfl, rfl, ?_, by omega, rfl⟩⟩⟩⟩⟩
      · rintro _ _ _ _ _ _ ⟨q0, q1, q2, q3, q4, q5⟩
        rw [q0, q1, q2, q3, q4, q5]
        exact ih (j + 1) (by omega) h4
      · rw [e3, dbl, crI, crS, if_neg (by omega)]
      · rw [e11, e8, dbl, zxor_i (by omega) (by omega) (by omega) (by omega), crI, crS, if_pos (by omega)]
        rfl
  refine vc_X11_adds_0 x kind b h hS (Nat.zero_le _) (fun y0 y1 y2 y3 y4 h' => y0 = x ∧ y1 = kind ∧ y2 = b ∧ y3 = ((crI 0 (x.toNat ^^^ (256 * b.toNat)) : Nat) : Int) ∧ y4 = 0 ∧ h' = h ∧ kind = 4) ?_ ⟨fun c => ⟨by omega, fun x2 e2 _ => ⟨rfl, rfl, rfl, ?_, rfl, rfl, by omega⟩⟩, fun c => ⟨fun c1 => ⟨by omega, ?_⟩, fun c1 => ?_⟩⟩
  · rintro _ _ _ _ _ _ ⟨q0, q1, q2, q3, q4, q5, q6⟩
    rw [q0, q1, q2, q3, q4, q5]
    exact loop 8 0 rfl q6
  · rw [e2, zxor_i h0 (by omega) (by omega) (by omega), crI, show (256 * b).toNat = 256 * b.toNat by omega]
  · unfold ckA at k
    rw [if_neg c1, if_pos (by omega)] at k
    rw [Int.tmod_eq_emod_of_nonneg (by omega)]
    exact k
  · unfold ckA at k
    rw [if_pos c1] at k
    rw [zxor_i h0 (by omega) b0 (by omega)]
    exact k
theorem mE_rng {i : Nat} (h8 : mdOk h 344 0) (hc : mCk h i) : 0 ≤ mE h i ∧ mE h i < 65536 := by
  obtain ⟨c1, c2, c3, c4⟩ := hc
  exact ckE_rng c1 (md_by h8) c2 _ (by omega)
theorem sp_expectedOf {i : Nat} (hd : 1 ≤ d) (hS : zSh h) (h8 : mdOk h 344 0) (hi : i < 60) (hc : mCk h i) (k : Q (some (vI (mE h i))) h) : wpN G d M_X11_expectedOf 0 (zar 0 [vR 343, vI (i : Int)]) [] h Q := by
  obtain ⟨c1, c2, c3, c4⟩ := hc
  have hb := md_by h8
  have w2 : gI h 344 200 ≤ 200 := h8.1.2
  have b : (0 : Int) ≤ (i : Int) ∧ (i : Int) < ((60 : Nat) : Int) := by omega
  have ei : (i : Int).toNat = i := by omega
  have loop : ∀ (n j : Nat), j + n = (gI h 359 i - gI h 358 i).toNat → wpN G d M_X11_expectedOf 25 [(0, vR 343), (1, vI (i : Int)), (2, vI (ckE (gI h 356 i) (gI h 344) (gI h 358 i) j)), (3, vI (gI h 358 i + j))] [] h Q := by
    intro n
    induction n with
    | zero =>
      intro j hj
      refine vc_X11_expectedOf_25 i _ _ h hS hd (fun _ _ _ _ => False) (fun _ _ _ _ q => q.elim) ⟨b, ?_⟩
      rw [ei]
      refine ⟨fun c => ?_, fun c => by omega⟩
      rw [show j = (gI h 359 i - gI h 358 i).toNat by omega]
      exact k
    | succ n ih =>
      intro j hj
      have hr := ckE_rng c1 hb c2 j (by omega)
      have hq := hb (gI h 358 i + j).toNat (by omega)
      refine vc_X11_expectedOf_25 i _ _ h hS hd (fun y1 y2 y3 h' => y1 = (i : Int) ∧ y2 = ckE (gI h 356 i) (gI h 344) (gI h 358 i) (j + 1) ∧ y3 = gI h 358 i + ((j + 1 : Nat) : Int) ∧ h' = h) ?_ ⟨b, ?_⟩
      · rintro _ _ _ _ ⟨q0, q1, q2, q3⟩
        rw [q0, q1, q2, q3]
        exact ih (j + 1) (by omega)
      · rw [ei]
        exact ⟨fun c => by omega, fun c => ⟨b, by omega, sp_adds hS c1 hr.1 hr.2 hq.1 hq.2 (qI_i ⟨hS, by omega, fun x ex _ => ⟨rfl, rfl, by omega, rfl⟩⟩)⟩⟩
  refine vc_X11_expectedOf_0 i h hS hd (fun y1 y2 y3 h' => y1 = (i : Int) ∧ y2 = ckE (gI h 356 i) (gI h 344) (gI h 358 i) 0 ∧ y3 = gI h 358 i + ((0 : Nat) : Int) ∧ h' = h) ?_ ⟨b, ?_⟩
  · rintro _ _ _ _ ⟨q0, q1, q2, q3⟩
    rw [q0, q1, q2, q3]
    exact loop (gI h 359 i - gI h 358 i).toNat 0 (by omega)
  · rw [ei]
    refine ⟨fun c => ⟨b, fun x ex _ => ⟨rfl, ?_, by omega, rfl⟩⟩, fun c => ⟨b, fun x ex _ => ⟨rfl, ?_, by omega, rfl⟩⟩⟩
    · rw [ckE, if_neg c]
    · rw [ckE, if_pos c]
theorem sp_mWrong {i : Nat} (hd : 2 ≤ d) (hS : zSh h) (h8 : mdOk h 344 0) (hi : i < 60) (ho : mfOk h i) (k1 : mWrong h i → Q (some (vI 1)) h) (k0 : ¬ mWrong h i → Q (some (vI 0)) h) : wpN G d M_X11_isWrong 0 (zar 0 [vR 343, vI (i : Int)]) [] h Q := by
  have b : (0 : Int) ≤ (i : Int) ∧ (i : Int) < ((60 : Nat) : Int) := by omega
  refine vc_X11_isWrong_0 i h hS hd ⟨b, ?_⟩
  rw [show (i : Int).toNat = i by omega]
  refine ⟨fun c => k0 (fun q => by have := q.1; omega), fun c => ?_⟩
  have hc : mCk h i := by
    rcases ho.2.1 with q | q | q
    · omega
    · omega
    · exact q
  refine sp_valueOf (by omega) hS h8 hi ho.1 ho.2.2 (fun r er => qL_i ⟨hS, sp_expectedOf (by omega) hS h8 hi hc (qI_i ⟨hS, fun c1 => k0 (fun q => q.2 ?_), fun c1 => k1 ⟨by omega, fun q => c1 ?_⟩⟩)⟩)
  · rw [← er, c1]
  · rw [er, q]
def mPart (h : zHp) (i : Nat) (w : Int) : Int := if w = 0 then gI h 354 i else if w = 1 then gI h 355 i else if w = 2 then gI h 356 i else if w = 3 then gI h 357 i else if w = 4 then gI h 358 i else if w = 5 then gI h 359 i else gI h 360 i
theorem sp_partOf {i : Nat} {w : Int} (hS : zSh h) (hi : i < 60) (k : ∀ r, r = mPart h i w → Q (some (vI r)) h) : wpN G d M_X11_partOf 0 (zar 0 [vR 343, vI (i : Int), vI w]) [] h Q := by
  have b : (0 : Int) ≤ (i : Int) ∧ (i : Int) < ((60 : Nat) : Int) := by omega
  refine vc_X11_partOf_0 i w h hS (Nat.zero_le _) ?_
  rw [show (i : Int).toNat = i by omega]
  refine ⟨fun c => ⟨b, k _ ?_⟩, fun c => ⟨b, k _ ?_⟩, fun c => ⟨b, k _ ?_⟩, fun c => ⟨b, k _ ?_⟩, fun c => ⟨b, k _ ?_⟩, fun c => ⟨b, k _ ?_⟩, fun c => ⟨b, k _ ?_⟩⟩ <;> unfold mPart
  · rw [if_neg (by omega), if_neg (by omega), if_neg (by omega), if_neg (by omega), if_neg (by omega), if_neg (by omega)]
  · rw [if_pos (by omega)]
  · rw [if_neg (by omega), if_pos (by omega)]
  · rw [if_neg (by omega), if_neg (by omega), if_pos (by omega)]
  · rw [if_neg (by omega), if_neg (by omega), if_neg (by omega), if_pos (by omega)]
  · rw [if_neg (by omega), if_neg (by omega), if_neg (by omega), if_neg (by omega), if_pos (by omega)]
  · rw [if_neg (by omega), if_neg (by omega), if_neg (by omega), if_neg (by omega), if_neg (by omega), if_pos (by omega)]
theorem sp_mfits {i : Nat} {v : Int} (hd : 1 ≤ d) (hS : zSh h) (hi : i < 60) (hs : fSz (gI h 355 i)) (k1 : fTakes (gI h 355 i) (gI h 356 i) v → Q (some (vI 1)) h) (k0 : ¬ fTakes (gI h 355 i) (gI h 356 i) v → Q (some (vI 0)) h) : wpN G d M_X11_fits 0 (zar 0 [vR 343, vI (i : Int), vL v]) [] h Q := by
  have b : (0 : Int) ≤ (i : Int) ∧ (i : Int) < ((60 : Nat) : Int) := by omega
  have hs4 : gI h 355 i ≤ 4 := by rcases hs with e | e | e <;> omega
  have hs0 : 1 ≤ gI h 355 i := by rcases hs with e | e | e <;> omega
  have sp := zshl_half hs
  have spv := fSpan_v hs
  have sh := fSpan_half hs
  refine vc_X11_fits_0 i v h hS hd ?_
  rw [show (i : Int).toNat = i by omega]
  refine ⟨b, by omega, by omega, fun x1 e1 => ⟨b, fun c => ⟨by omega, by omega, sp_in hS (fun r er => qI_i ⟨hS, by omega, ?_⟩)⟩, fun c => ⟨by omega, by omega, sp_in hS (fun r er => qI_i ⟨hS, by omega, ?_⟩)⟩⟩⟩
  · unfold fTakes at k1 k0
    rw [if_neg c] at k1 k0
    rcases er with ⟨q1, q2, q3⟩ | ⟨q1, q3⟩ <;> rw [q3]
    · exact k1 (by omega)
    · exact k0 (by omega)
  · unfold fTakes at k1 k0
    rw [if_pos c] at k1 k0
    rcases er with ⟨q1, q2, q3⟩ | ⟨q1, q3⟩ <;> rw [q3]
    · exact k1 (by omega)
    · exact k0 (by omega)
def m344 : Nat → Nat → Prop := fun b _ => b = 344
theorem sp_puts {i : Nat} {v : Int} (hS : zSh h) (h8 : mdOk h 344 0) (hi : i < 60) (hf : mIn h i) (hl : gI h 357 i = 0 ∨ gI h 357 i = 1) (hv : zIL v)
    (k : ∀ h', zSh h' → zF4 m344 h h' → (∀ j : Nat, gI h' 344 j = wrF (gI h 344) (gI h 354 i) (gI h 355 i) (gI h 357 i) v (gI h 355 i).toNat j) → Q none h') : wpN G d M_X11_puts 0 (zar 0 [vR 343, vI (i : Int), vL v]) [] h Q := by
  obtain ⟨f1, f2, f3⟩ := hf
  have w2 : gI h 344 200 ≤ 200 := h8.1.2
  have b : (0 : Int) ≤ (i : Int) ∧ (i : Int) < ((60 : Nat) : Int) := by omega
  have hs4 : gI h 355 i ≤ 4 := by rcases f1 with e | e | e <;> omega
  have hs0 : 1 ≤ gI h 355 i := by rcases f1 with e | e | e <;> omega
  have nE : ∀ c j, c ≠ 344 → ¬ m344 c j := fun c j q e => q e
  have loop : ∀ (n j : Nat) (g : zHp), j + n = (gI h 355 i).toNat → zSh g → zF4 m344 h g → (∀ t : Nat, gI g 344 t = wrF (gI h 344) (gI h 354 i) (gI h 355 i) (gI h 357 i) v j t) → wpN G d M_X11_puts 6 [(0, vR 343), (1, vI (i : Int)), (2, vL v), (4, vL (v / 256 ^ j)), (6, vI (j : Int))] [] g Q := by
    intro n
    induction n with
    | zero =>
      intro j g hj s F e
      refine vc_X11_puts_6 i v _ j g s (Nat.zero_le _) (fun _ _ _ _ _ => False) (fun _ _ _ _ _ q => q.elim) ?_
      rw [show (i : Int).toNat = i by omega, F.I 355 _ (nE _ _ (by omega))]
      exact ⟨b, fun c => k g s F (fun t => by rw [e t, show j = (gI h 355 i).toNat by omega]), fun c => by omega⟩
    | succ n ih =>
      intro j g hj s F e
      obtain ⟨z1, z2⟩ := zshr_pow hv (k := j) (by omega)
      refine vc_X11_puts_6 i v _ j g s (Nat.zero_le _) (fun y1 y2 y4 y6 g' => y1 = (i : Int) ∧ y2 = v ∧ y4 = v / 256 ^ (j + 1) ∧ y6 = ((j + 1 : Nat) : Int) ∧ g' = sI g 344 (wrP (gI h 354 i) (gI h 355 i) (gI h 357 i) j).toNat (byteN v j)) ?_ ?_
      · rintro _ _ _ _ _ ⟨q0, q1, q2, q3, q4⟩
        rw [q0, q1, q2, q3, q4]
        refine ih (j + 1) _ (by omega) s (F.tr (zF4.sI rfl)) (fun t => ?_)
        rw [gI_sI, wrF]
        by_cases q : t = (wrP (gI h 354 i) (gI h 355 i) (gI h 357 i) j).toNat
        · rw [if_pos ⟨rfl, q⟩, if_pos q]
        · rw [if_neg (fun w => q w.2), if_neg q, e t]
      · rw [show (i : Int).toNat = i by omega, F.I 355 _ (nE _ _ (by omega)), F.I 354 _ (nE _ _ (by omega)), F.I 357 _ (nE _ _ (by omega)), z1, z2]
        refine ⟨b, fun c => by omega, fun c => ⟨b, fun c1 => ⟨b, b, by omega, by omega, by omega, by omega, fun h3 e3 x5 e5 => ⟨by omega, fun x ex _ => ⟨rfl, rfl, e5, by omega, ?_⟩⟩⟩, fun c1 => ⟨b, by omega, by omega, fun h3 e3 x5 e5 => ⟨by omega, fun x ex _ => ⟨rfl, rfl, e5, by omega, ?_⟩⟩⟩⟩⟩
        · rw [e3, wrP, if_pos (by omega), show gI h 354 i + gI h 355 i - 1 - (j : Int) = gI h 354 i + (gI h 355 i - 1 - j) by omega]
        · rw [e3, wrP, if_neg (by omega)]
  refine vc_X11_puts_0 i v h hS (Nat.zero_le _) (fun y1 y2 y4 y6 g' => y1 = (i : Int) ∧ y2 = v ∧ y4 = v / 256 ^ 0 ∧ y6 = ((0 : Nat) : Int) ∧ g' = h) ?_ (fun _ => ⟨rfl, rfl, by simp, rfl, rfl⟩)
  rintro _ _ _ _ _ ⟨q0, q1, q2, q3, q4⟩
  rw [q0, q1, q2, q3, q4]
  exact loop (gI h 355 i).toNat 0 h (by omega) hS zF4.rf (fun t => rfl)
end MF
