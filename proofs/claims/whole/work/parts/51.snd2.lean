/-! SOUNDNESS, further nodes -/
section Sound2
variable {p : Program} {l : Launch} {e : Env} {R : Room} {s : State} {m : MethodId} {args : Array Value} {below : List Frame} {meth : Method} {c : Code} {Q : State → Prop}
variable {G : xG} {st : xStt} {H0 : Heap} {hE : xH} {cd : xC} {cc : ByteArray} {nm : String} {own : Nat} {ini : Bool} {nL rt d : Nat} {cl : Nat → List Int → xH → Option (List Int × xH)} {F : Nat} {rv : List Int} {hF : xH}

theorem sn_16 (K : Kx p l e R s m args below meth c Q G st H0 hE cd cc nm own ini nL rt d cl F rv hF) (i : Int) (a b : xT) : Snd p l e R s m args below meth c Q G st H0 hE cd own ini nL rt cl F rv hF (nd 16 i a b) := by
  obtain ⟨k1, k2, k3, k4, k5, k6, k7, k8, k9, k10, k11, k12, k13, k14, k15, k16, k17, k18, k19, k20, ⟨k21, k21'⟩, k22, k23, k24, k25⟩ := K
  intro pc brk cnt dep sa g x ctl vs x' p1 p2 hc he hL hh
  simp only [ck] at hc
  simp only [ev] at he
  cases he
  split at hc
  · rename_i q heq
    obtain ⟨hp, hc⟩ := if_some hc
    cases hc
    exact ⟨hx_rf, hL, fun _ _ hk => at_Gs k1 k2 k3 k4 k14 k8 hh heq hp (Or.inr rfl) hk⟩
  · cases hc
theorem sn_18 (K : Kx p l e R s m args below meth c Q G st H0 hE cd cc nm own ini nL rt d cl F rv hF) (i : Int) (a b : xT) : Snd p l e R s m args below meth c Q G st H0 hE cd own ini nL rt cl F rv hF (nd 18 i a b) := by
  obtain ⟨k1, k2, k3, k4, k5, k6, k7, k8, k9, k10, k11, k12, k13, k14, k15, k16, k17, k18, k19, k20, ⟨k21, k21'⟩, k22, k23, k24, k25⟩ := K
  intro pc brk cnt dep sa g x ctl vs x' p1 p2 hc he hL hh
  simp only [ck] at hc
  simp only [ev] at he
  cases he
  split at hc
  · rename_i q heq
    obtain ⟨hp, hc⟩ := if_some hc
    cases hc
    exact ⟨hx_rf, hL, fun _ _ hk => at_Gs k1 k2 k3 k4 k14 k8 hh heq hp (Or.inl rfl) hk⟩
  · cases hc
theorem sn_17 (K : Kx p l e R s m args below meth c Q G st H0 hE cd cc nm own ini nL rt d cl F rv hF) (i : Int) (a b : xT) : Snd p l e R s m args below meth c Q G st H0 hE cd own ini nL rt cl F rv hF (nd 17 i a b) := by
  obtain ⟨k1, k2, k3, k4, k5, k6, k7, k8, k9, k10, k11, k12, k13, k14, k15, k16, k17, k18, k19, k20, ⟨k21, k21'⟩, k22, k23, k24, k25⟩ := K
  intro pc brk cnt dep sa g x ctl vs x' p1 p2 hc he hL hh
  simp only [ck] at hc
  simp only [ev] at he
  cases he
  split at hc
  · rename_i q heq
    obtain ⟨hp, hc⟩ := if_some hc
    cases hc
    exact ⟨hx_rf, hL, fun _ _ hk => at_Str k1 k2 k3 k4 k15 (Or.inl ⟨heq, rfl⟩) hp hk⟩
  · rename_i q heq
    obtain ⟨hp, hc⟩ := if_some hc
    cases hc
    exact ⟨hx_rf, hL, fun _ _ hk => at_Str k1 k2 k3 k4 k15 (Or.inr ⟨heq, rfl⟩) hp hk⟩
  · cases hc
theorem sn_57 (i : Int) (a b : xT) : Snd p l e R s m args below meth c Q G st H0 hE cd own ini nL rt cl F rv hF (nd 57 i a b) := by
  intro pc brk cnt dep sa g x ctl vs x' p1 p2 hc he hL hh
  simp only [ck] at hc
  simp only [ev] at he
  cases he
  cases hc
  exact ⟨hx_rf, hL, fun _ _ hk => hk⟩
theorem sn_58 (K : Kx p l e R s m args below meth c Q G st H0 hE cd cc nm own ini nL rt d cl F rv hF) (i : Int) (a b : xT) (ha : Snd p l e R s m args below meth c Q G st H0 hE cd own ini nL rt cl F rv hF a) (hb : Snd p l e R s m args below meth c Q G st H0 hE cd own ini nL rt cl F rv hF b) (va : kcl (tagT a) = 0) (vb : kcl (tagT b) = 3) : Snd p l e R s m args below meth c Q G st H0 hE cd own ini nL rt cl F rv hF (nd 58 i a b) := by
  obtain ⟨k1, k2, k3, k4, k5, k6, k7, k8, k9, k10, k11, k12, k13, k14, k15, k16, k17, k18, k19, k20, ⟨k21, k21'⟩, k22, k23, k24, k25⟩ := K
  intro pc brk cnt dep sa g x ctl vs x' p1 p2 hc he hL hh
  simp only [ck] at hc
  simp only [ev] at he
  split at hc
  · rename_i q1 q1' hca
    obtain ⟨c1, hcb⟩ := if_some hc
    obtain ⟨n1, s1, ea, he⟩ := xb_e he
    obtain ⟨ws, s2, eb, he⟩ := xa_e he
    cases he
    obtain ⟨A1, A2, A3⟩ := ha _ _ _ _ sa _ _ _ _ _ _ _ hca ea hL hh
    obtain ⟨B1, B2, B3⟩ := hb _ _ _ _ ((tyT pft pmk a, n1) :: sa) _ _ _ _ _ _ _ hcb eb A2 (hx_tr hh A1)
    simp only [Concl, va, vb] at A3 B3
    refine ⟨hx_tr A1 B1, B2, fun hd hbd hk => A3 hd (bd k9 (hx_tr hh A1) B1 hbd) (B3 (sum1 hd) hbd ?_)⟩
    have hk2 : At p l e R s m args below meth c Q G st H0 hE cd p1 x' (((tyA pft pmk (nd 58 i a b)).zip (n1 :: ws)).reverse ++ sa) := hk
    have e1 : ((tyA pft pmk (nd 58 i a b)).zip (n1 :: ws)).reverse ++ sa = ((tyA pft pmk b).zip ws).reverse ++ (tyT pft pmk a, n1) :: sa := by
      simp only [tyA, List.zip_cons_cons, List.reverse_cons, List.append_assoc]
      rfl
    rw [e1] at hk2
    exact hk2
  · cases hc
theorem xret_len {rt : Nat} {r : List Int} (h : xret rt r = true) : (rt = 9 ∧ r = []) ∨ (rt ≠ 9 ∧ ∃ n, r = [n]) := by
  unfold xret at h
  split at h <;> first | exact Or.inl ⟨rfl, rfl⟩ | (cases h; done) | (exact Or.inr ⟨by decide, _, rfl⟩)
theorem sn_8 (K : Kx p l e R s m args below meth c Q G st H0 hE cd cc nm own ini nL rt d cl F rv hF) (i : Int) (a b : xT) (hb : Snd p l e R s m args below meth c Q G st H0 hE cd own ini nL rt cl F rv hF b) (vb : kcl (tagT b) = 3) : Snd p l e R s m args below meth c Q G st H0 hE cd own ini nL rt cl F rv hF (nd 8 i a b) := by
  obtain ⟨k1, k2, k3, k4, k5, k6, k7, k8, k9, k10, k11, k12, k13, k14, k15, k16, k17, k18, k19, k20, ⟨k21, k21'⟩, k22, k23, k24, k25⟩ := K
  intro pc brk cnt dep sa g x ctl vs x' p1 p2 hc he hL hh
  simp only [ck] at hc
  simp only [ev] at he
  split at hc
  · rename_i q1 q1' kind ts rt' hcb hmk
    obtain ⟨⟨c1, c2, c3⟩, hc⟩ := if_some hc
    have hq := mp_e hc
    obtain ⟨ws, s1, eb, he⟩ := xa_e he
    split at he
    · rename_i r h' hcl
      cases he
      obtain ⟨B1, B2, B3⟩ := hb _ _ _ _ sa _ _ _ _ _ _ _ hcb eb hL hh
      simp only [Concl, vb] at B3
      obtain ⟨C1, C2⟩ := k24 _ _ _ _ _ hcl
      obtain ⟨D1, D2, D3, D4⟩ := C2 _ _ _ hmk
      refine ⟨hx_tr B1 C1, B2, fun hd hbd hk => B3 hd (bd k9 (hx_tr hh B1) C1 hbd) ?_⟩
      have hty : tyT pft pmk (nd 8 i a b) = rty rt' := by
        simp only [tyT, hmk]
      have hk2 : At p l e R s m args below meth c Q G st H0 hE cd p1 (s1.1, h') (vs.map (fun n => (rty rt', n)) ++ sa) := by
        have : At p l e R s m args below meth c Q G st H0 hE cd p1 (s1.1, h') (vs.map (fun n => (tyT pft pmk (nd 8 i a b), n)) ++ sa) := hk
        rw [hty] at this
        exact this
      have := at_Call k1 k2 k3 k4 k5 k6 k7 k19 k8 (hx_tr hh B1) k9 (by rw [B2]; exact k10) hmk D1 (D2 (by have := (hx_tr hh B1).1; omega)) C1 D3 (fun z => absurd z (by omega)) k21 k21' (by omega) hbd.1 hbd.2 hq hk2
      rw [c1]
      exact this
    · cases he
  · cases hc
theorem sn_36 (K : Kx p l e R s m args below meth c Q G st H0 hE cd cc nm own ini nL rt d cl F rv hF) (i : Int) (a b : xT) (ha : Snd p l e R s m args below meth c Q G st H0 hE cd own ini nL rt cl F rv hF a) (va : kcl (tagT a) = 0) : Snd p l e R s m args below meth c Q G st H0 hE cd own ini nL rt cl F rv hF (nd 36 i a b) := by
  obtain ⟨k1, k2, k3, k4, k5, k6, k7, k8, k9, k10, k11, k12, k13, k14, k15, k16, k17, k18, k19, k20, ⟨k21, k21'⟩, k22, k23, k24, k25⟩ := K
  intro pc brk cnt dep sa g x ctl vs x' p1 p2 hc he hL hh
  simp only [ck] at hc
  simp only [ev] at he
  obtain ⟨c1, hca⟩ := if_some hc
  split at he
  · rename_i s1 ea
    cases he
    obtain ⟨A1, A2, A3⟩ := ha _ _ _ _ sa _ _ _ _ _ _ _ hca ea hL hh
    simp only [Concl, va] at A3
    exact ⟨A1, A2, fun hd hbd hk => A3 hd hbd hk⟩
  · cases he
theorem sn_10 (K : Kx p l e R s m args below meth c Q G st H0 hE cd cc nm own ini nL rt d cl F rv hF) (i : Int) (a b : xT) (hb : Snd p l e R s m args below meth c Q G st H0 hE cd own ini nL rt cl F rv hF b) (vb : kcl (tagT b) = 3) : Snd p l e R s m args below meth c Q G st H0 hE cd own ini nL rt cl F rv hF (nd 10 i a b) := by
  obtain ⟨k1, k2, k3, k4, k5, k6, k7, k8, k9, k10, k11, k12, k13, k14, k15, k16, k17, k18, k19, k20, ⟨k21, k21'⟩, k22, k23, k24, k25⟩ := K
  intro pc brk cnt dep sa g x ctl vs x' p1 p2 hc he hL hh
  simp only [ck] at hc
  simp only [ev] at he
  split at hc
  · rename_i q heq
    obtain ⟨hp, hc⟩ := if_some hc
    split at hc
    · rename_i q2 q2' hbd0
      obtain ⟨q1, hdup, hcb⟩ := bn_e hbd0
      split at hc
      · rename_i ts hmk
        obtain ⟨⟨c1, c2⟩, hc⟩ := if_some hc
        have hq := mp_e hc
        obtain ⟨ws, s1, eb, he⟩ := xa_e he
        split at he
        · rename_i h' hcl
          cases he
          have N1 : hx x.2 (hnew pft x.2 (10 + i.toNat / 1000) 0) := hx_new _ _ _ _
          obtain ⟨B1, B2, B3⟩ := hb _ _ _ _ ((2, (x.2.1 : Int)) :: (2, (x.2.1 : Int)) :: sa) _ _ _ _ _ _ _ hcb eb hL (hx_tr hh N1)
          simp only [Concl, vb] at B3
          obtain ⟨C1, C2⟩ := k24 _ _ _ _ _ hcl
          obtain ⟨D1, D2, D3, D4⟩ := C2 _ _ _ hmk
          refine ⟨hx_tr N1 (hx_tr B1 C1), B2, fun hd hbd hk => ?_⟩
          have b1 := bd k9 (hx_tr hh (hx_tr N1 B1)) C1 hbd
          have b2 := bd k9 (hx_tr hh N1) B1 b1
          refine at_New k1 k2 k3 k4 k5 k6.1 k16 hh k9 heq hp b2.1 b2.2 (at_Dup k1 k2 k3 (Or.inr rfl) hdup (B3 ?_ b1 ?_))
          · exact Nat.le_trans (sum1 (sum1 hd)) (show dep + cat 2 + cat 2 ≤ dep + 2 from Nat.le_refl _)
          · have hk2 : At p l e R s m args below meth c Q G st H0 hE cd p1 (s1.1, h') (([] : List Int).map (fun n => (rty 9, n)) ++ (2, (x.2.1 : Int)) :: sa) := hk
            have := at_Call (vs := (x.2.1 : Int) :: ws) k1 k2 k3 k4 k5 k6 k7 k19 k8 (hx_tr hh (hx_tr N1 B1)) k9 (by rw [B2]; exact k10) hmk D1 (D2 (by have := (hx_tr hh (hx_tr N1 B1)).1; omega)) C1 D3 (fun _ => ⟨_, _, rfl⟩) k21 k21' (Nat.le_trans (sum1 (t := 2) hd) (show dep + 1 ≤ 32 by omega)) hbd.1 hbd.2 hq hk2
            rw [c1]
            simp only [List.zip_cons_cons, List.reverse_cons, List.append_assoc, List.singleton_append] at this
            exact this
        · cases he
      · cases hc
    · cases hc
  · cases hc

end Sound2
