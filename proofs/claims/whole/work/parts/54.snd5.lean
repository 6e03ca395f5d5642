/-! SOUNDNESS: switches and rows of numbers -/
theorem lk_run : ∀ (tb : List (Int × Nat)) (lo : Int) (n : Int), (∀ (j : Nat) (v : Int) (g : Nat), tb[j]? = some (v, g) → v = lo + (j : Int)) → (∀ (j : Nat) (v : Int) (g : Nat), tb[j]? = some (v, g) → n = lo + (j : Int) → tb.lookup n = some g) ∧ ((∀ j : Nat, j < tb.length → n ≠ lo + (j : Int)) → tb.lookup n = none)
  | [], lo, n, _ => ⟨fun j v g h => by simp at h, fun _ => rfl⟩
  | (v0, g0) :: tb, lo, n, h => by
    have h0 : v0 = lo := by have := h 0 v0 g0 rfl; simpa using this
    have ih := lk_run tb (lo + 1) n (fun j v g hj => by have := h (j + 1) v g (by simpa using hj); rw [this]; push_cast; omega)
    refine ⟨fun j v g hj hn => ?_, fun hno => ?_⟩
    · by_cases hv : n = v0
      · have hj0 : j = 0 := by omega
        subst hj0
        simp at hj
        rw [List.lookup_cons]
        simp [hv, hj.2]
      · cases j with
        | zero => exact absurd (by simp at hn; omega) hv
        | succ j =>
          rw [List.lookup_cons]
          have : (n == v0) = false := by simp [hv]
          rw [this]
          exact ih.1 j v g (by simpa using hj) (by rw [hn]; push_cast; omega)
    · have hv : n ≠ v0 := by have := hno 0 (by simp); simpa [h0] using this
      rw [List.lookup_cons]
      have : (n == v0) = false := by simp [hv]
      rw [this]
      exact ih.2 (fun j hj => by have := hno (j + 1) (by simpa using hj); intro q; apply this; rw [q]; push_cast; omega)
theorem lk_par : ∀ (tb : List (Int × Nat)) (ps : List (Int × Int)) (n d : Int), tb.length = ps.length → (∀ (j : Nat) (v : Int) (g : Nat) (w o : Int), tb[j]? = some (v, g) → ps[j]? = some (w, o) → v = w) → (∃ (j : Nat) (v : Int) (g : Nat) (o : Int), tb[j]? = some (v, g) ∧ ps[j]? = some (v, o) ∧ tb.lookup n = some g ∧ Op.lookupswitch.offset ps d n = o) ∨ (tb.lookup n = none ∧ Op.lookupswitch.offset ps d n = d)
  | [], [], n, d, _, _ => Or.inr ⟨rfl, rfl⟩
  | (v0, g0) :: tb, (w0, o0) :: ps, n, d, hl, h => by
    have h0 : v0 = w0 := h 0 v0 g0 w0 o0 rfl rfl
    subst h0
    by_cases hv : n = v0
    · left
      refine ⟨0, v0, g0, o0, rfl, rfl, ?_, ?_⟩
      · rw [List.lookup_cons]; simp [hv]
      · simp [Op.lookupswitch.offset, hv]
    · rcases lk_par tb ps n d (by simpa using hl) (fun j v g w o a b => h (j + 1) v g w o (by simpa using a) (by simpa using b)) with ⟨j, v, g, o, a1, a2, a3, a4⟩ | ⟨a1, a2⟩
      · left
        refine ⟨j + 1, v, g, o, by simpa using a1, by simpa using a2, ?_, ?_⟩
        · rw [List.lookup_cons]
          have : (n == v0) = false := by simp [hv]
          rw [this]
          exact a3
        · simp only [Op.lookupswitch.offset]
          rw [if_neg (by first | exact hv | exact fun z => hv z.symm | simpa using hv)]
          exact a4
      · right
        refine ⟨?_, ?_⟩
        · rw [List.lookup_cons]
          have : (n == v0) = false := by simp [hv]
          rw [this]
          exact a1
        · simp only [Op.lookupswitch.offset]
          rw [if_neg (by first | exact hv | exact fun z => hv z.symm | simpa using hv)]
          exact a2
section Sound5
variable {p : Program} {l : Launch} {e : Env} {R : Room} {s : State} {m : MethodId} {args : Array Value} {below : List Frame} {meth : Method} {c : Code} {Q : State → Prop}
variable {G : xG} {st : xStt} {H0 : Heap} {hE : xH} {cd : xC} {cc : ByteArray} {nm : String} {own : Nat} {ini : Bool} {nL rt d : Nat} {cl : Nat → List Int → xH → Option (List Int × xH)} {F : Nat} {rv : List Int} {hF : xH}

theorem at_Sw (K : Kx p l e R s m args below meth c Q G st H0 hE cd cc nm own ini nL rt d cl F rv hF) {pc : Nat} {x : xS} {sa : xL} {tb : List (Int × Nat)} {dg : Nat} {gs : List Nat} {n : Int} (h : ckW cd pc tb dg gs = true) (hk : ∀ q, gs[(tb.lookup n).getD dg]? = some q → At p l e R s m args below meth c Q G st H0 hE cd q x sa) : At p l e R s m args below meth c Q G st H0 hE cd pc x ((0, n) :: sa) := by
  obtain ⟨k1, k2, k3, k4, k5, k6, k7, k8, k9, k10, k11, k12, k13, k14, k15, k16, k17, k18, k19, k20, ⟨k21, k21'⟩, k22, k23, k24, k25⟩ := K
  unfold ckW at h
  split at h
  · rename_i dflt lo hi offs len heq
    simp only [Bool.and_eq_true, decide_eq_true_eq, beq_iff_eq, List.all_eq_true, List.mem_range] at h
    obtain ⟨⟨⟨⟨h1, h2⟩, h3⟩, h4⟩, h5⟩ := h
    have htb : ∀ (j : Nat) (v : Int) (g : Nat), tb[j]? = some (v, g) → v = lo + (j : Int) ∧ ∃ o, offs[j]? = some o ∧ 0 ≤ (pc : Int) + o ∧ gs[g]? = some ((pc : Int) + o).toNat := by
      intro j v g hj
      have hjl : j < tb.length := (List.getElem?_eq_some_iff.mp hj).1
      have h6 := h5 j hjl
      have ho : offs[j]? = some (offs[j]'(by omega)) := Array.getElem?_eq_getElem (by omega)
      rw [hj, ho] at h6
      simp only [Bool.and_eq_true, decide_eq_true_eq, beq_iff_eq] at h6
      exact ⟨h6.1.1, _, ho, h6.1.2, h6.2⟩
    have lk := lk_run tb lo n (fun j v g hj => (htb j v g hj).1)
    by_cases hin : lo ≤ n ∧ n ≤ hi
    · have hjl : (n - lo).toNat < tb.length := by omega
      obtain ⟨⟨v, g⟩, hvg⟩ : ∃ z : Int × Nat, tb[(n - lo).toNat]'hjl = z := ⟨_, rfl⟩
      have hj : tb[(n - lo).toNat]? = some (v, g) := by rw [List.getElem?_eq_getElem hjl, hvg]
      obtain ⟨hv, o, ho, hp, hg⟩ := htb _ _ _ hj
      have hlk := lk.1 _ _ _ hj (by omega)
      have hk2 := hk ((pc : Int) + o).toNat (by rw [hlk]; exact hg)
      refine At.row k1 k2 k3 heq (fun _ => by intro q; cases q) hk2 fun H ls locs vs g1 g2 g3 g4 kk => ?_
      obtain ⟨v1, w1, rfl, r1, g5⟩ := SR_cons g4
      obtain ⟨y, rfl, ey⟩ := r1
      replace ey : n = y.toInt := ey
      exact lv_tableIn k1 k2 (k3 _ _ _ heq) (by omega) (by omega) (by rw [← ey]; exact ho) (tgt := ((pc : Int) + o).toNat) (by omega) (kk H ls locs w1 g1 g2 g3 g5)
    · have hlk := lk.2 (fun j hj => by omega)
      have hk2 := hk ((pc : Int) + dflt).toNat (by rw [hlk]; exact h2)
      refine At.row k1 k2 k3 heq (fun _ => by intro q; cases q) hk2 fun H ls locs vs g1 g2 g3 g4 kk => ?_
      obtain ⟨v1, w1, rfl, r1, g5⟩ := SR_cons g4
      obtain ⟨y, rfl, ey⟩ := r1
      replace ey : n = y.toInt := ey
      exact lv_tableOut k1 k2 (k3 _ _ _ heq) (by omega) (tgt := ((pc : Int) + dflt).toNat) (by omega) (kk H ls locs w1 g1 g2 g3 g5)
  · rename_i dflt ps len heq
    simp only [Bool.and_eq_true, decide_eq_true_eq, beq_iff_eq] at h
    obtain ⟨⟨⟨⟨h1, h2⟩, h4⟩, h3⟩, h5⟩ := h
    rw [List.all_eq_true] at h5
    have htb : ∀ (j : Nat) (v : Int) (g : Nat) (w o : Int), tb[j]? = some (v, g) → ps.toList[j]? = some (w, o) → v = w ∧ 0 ≤ (pc : Int) + o ∧ gs[g]? = some ((pc : Int) + o).toNat := by
      intro j v g w o hj hp
      have hjl : j < tb.length := (List.getElem?_eq_some_iff.mp hj).1
      have h6 := h5 j (List.mem_range.mpr hjl)
      rw [Array.getElem?_toList] at hp
      rw [hj, hp] at h6
      simp only [Bool.and_eq_true, decide_eq_true_eq, beq_iff_eq] at h6
      exact ⟨h6.1.1, h6.1.2, h6.2⟩
    rcases lk_par tb ps.toList n dflt (by rw [Array.length_toList]; exact h4.symm) (fun j v g w o a b => (htb j v g w o a b).1) with ⟨j, v, g, o, a1, a2, a3, a4⟩ | ⟨a1, a2⟩
    · obtain ⟨-, hp, hg⟩ := htb _ _ _ _ _ a1 a2
      have hk2 := hk ((pc : Int) + o).toNat (by rw [a3]; exact hg)
      refine At.row k1 k2 k3 heq (fun _ => by intro q; cases q) hk2 fun H ls locs vs g1 g2 g3 g4 kk => ?_
      obtain ⟨v1, w1, rfl, r1, g5⟩ := SR_cons g4
      obtain ⟨y, rfl, ey⟩ := r1
      replace ey : n = y.toInt := ey
      exact lv_lookup (off := o) k1 k2 (k3 _ _ _ heq) h3 (by rw [← ey]; exact a4) (tgt := ((pc : Int) + o).toNat) (by omega) (kk H ls locs w1 g1 g2 g3 g5)
    · have hk2 := hk ((pc : Int) + dflt).toNat (by rw [a1]; exact h2)
      refine At.row k1 k2 k3 heq (fun _ => by intro q; cases q) hk2 fun H ls locs vs g1 g2 g3 g4 kk => ?_
      obtain ⟨v1, w1, rfl, r1, g5⟩ := SR_cons g4
      obtain ⟨y, rfl, ey⟩ := r1
      replace ey : n = y.toInt := ey
      exact lv_lookup (off := dflt) k1 k2 (k3 _ _ _ heq) h3 (by rw [← ey]; exact a2) (tgt := ((pc : Int) + dflt).toNat) (by omega) (kk H ls locs w1 g1 g2 g3 g5)
  · cases h
theorem sn_51 (K : Kx p l e R s m args below meth c Q G st H0 hE cd cc nm own ini nL rt d cl F rv hF) (i : Int) (a b : xT) (ha : Snd p l e R s m args below meth c Q G st H0 hE cd own ini nL rt cl F rv hF a) (hb : Snd p l e R s m args below meth c Q G st H0 hE cd own ini nL rt cl F rv hF b) (va : kcl (tagT a) = 2) (vb : kcl (tagT b) = 4) : Snd p l e R s m args below meth c Q G st H0 hE cd own ini nL rt cl F rv hF (nd 51 i a b) := by
  obtain ⟨k1, k2, k3, k4, k5, k6, k7, k8, k9, k10, k11, k12, k13, k14, k15, k16, k17, k18, k19, k20, ⟨k21, k21'⟩, k22, k23, k24, k25⟩ := K
  intro pc brk cnt dep sa g x ctl vs x' p1 p2 hc he hL hh
  simp only [ck] at hc
  simp only [ev] at he
  have hgs : gst (nd 51 i a b) = i.toNat :: gst b := by simp only [gst]
  split at hc
  · rename_i q1 q1' q2 q2' hca hcb
    obtain ⟨⟨c1, c2⟩, hc⟩ := if_some hc
    cases hc
    cases g with
    | zero =>
      rcases xq_e he with ⟨ws, s1, ea, he⟩ | ⟨k, ws, s1, ea, hz⟩
      · obtain ⟨A1, A2, A3⟩ := ha _ _ _ _ sa _ _ _ _ _ _ _ hca ea hL hh
        obtain ⟨B1, B2, B3⟩ := hb _ _ _ _ sa _ _ _ _ _ _ _ hcb he A2 (hx_tr hh A1)
        simp only [Concl, va, vb] at A3 B3
        refine ⟨hx_tr A1 B1, B2, fun hd hbd => ?_⟩
        intro q hq hk
        rw [hgs] at hq
        cases hq
        exact A3 hd (bd k9 (hx_tr hh A1) B1 hbd) (At_eqv (eqv_sym c1) (B3 hd hbd q2 c2 hk))
      · cases hz
        obtain ⟨A1, A2, A3⟩ := ha _ _ _ _ sa _ _ _ _ _ _ _ hca ea hL hh
        simp only [Concl, va] at A3
        refine ⟨A1, A2, fun hd hbd => ?_⟩
        intro q hq hk
        rw [hgs] at hq
        cases hq
        exact A3 hd hbd (SK_mono (fun z => by cases z) hk)
    | succ g =>
      obtain ⟨B1, B2, B3⟩ := hb _ _ _ _ sa _ _ _ _ _ _ _ hcb he hL hh
      simp only [Concl, vb] at B3
      refine ⟨B1, B2, fun hd hbd => ?_⟩
      intro q hq hk
      rw [hgs] at hq
      exact B3 hd hbd q hq hk
  · cases hc
theorem sn_50 (K : Kx p l e R s m args below meth c Q G st H0 hE cd cc nm own ini nL rt d cl F rv hF) (i : Int) (a b : xT) (ha : Snd p l e R s m args below meth c Q G st H0 hE cd own ini nL rt cl F rv hF a) (hb : Snd p l e R s m args below meth c Q G st H0 hE cd own ini nL rt cl F rv hF b) (va : kcl (tagT a) = 2) (vb : kcl (tagT b) = 4) : Snd p l e R s m args below meth c Q G st H0 hE cd own ini nL rt cl F rv hF (nd 50 i a b) := by
  obtain ⟨k1, k2, k3, k4, k5, k6, k7, k8, k9, k10, k11, k12, k13, k14, k15, k16, k17, k18, k19, k20, ⟨k21, k21'⟩, k22, k23, k24, k25⟩ := K
  intro pc brk cnt dep sa g x ctl vs x' p1 p2 hc he hL hh
  simp only [ck] at hc
  simp only [ev] at he
  have hgs : gst (nd 50 i a b) = i.toNat :: gst b := by simp only [gst]
  split at hc
  · rename_i q1 q1' q2 q2' hca hcb
    cases hc
    cases g with
    | zero =>
      dsimp only at he
      split at he
      · cases he
      · rename_i hno
        obtain ⟨A1, A2, A3⟩ := ha _ _ _ _ sa _ _ _ _ _ _ _ hca he hL hh
        simp only [Concl, va] at A3
        refine ⟨A1, A2, fun hd hbd => ?_⟩
        intro q hq hk
        rw [hgs] at hq
        cases hq
        exact A3 hd hbd (SK_mono (fun z => by subst z; exact absurd he (hno _ _)) hk)
    | succ g =>
      obtain ⟨B1, B2, B3⟩ := hb _ _ _ _ sa _ _ _ _ _ _ _ hcb he hL hh
      simp only [Concl, vb] at B3
      refine ⟨B1, B2, fun hd hbd => ?_⟩
      intro q hq hk
      rw [hgs] at hq
      exact B3 hd hbd q hq hk
  · cases hc
theorem sn_49 (K : Kx p l e R s m args below meth c Q G st H0 hE cd cc nm own ini nL rt d cl F rv hF) (i : Int) (a b c0 : xT) (ha : Snd p l e R s m args below meth c Q G st H0 hE cd own ini nL rt cl F rv hF a) (hc0 : Snd p l e R s m args below meth c Q G st H0 hE cd own ini nL rt cl F rv hF c0) (va : kcl (tagT a) = 0) (vc : kcl (tagT c0) = 4) : Snd p l e R s m args below meth c Q G st H0 hE cd own ini nL rt cl F rv hF (n3 49 i a b c0) := by
  have K0 := K
  obtain ⟨k1, k2, k3, k4, k5, k6, k7, k8, k9, k10, k11, k12, k13, k14, k15, k16, k17, k18, k19, k20, ⟨k21, k21'⟩, k22, k23, k24, k25⟩ := K
  intro pc brk cnt dep sa g x ctl vs x' p1 p2 hc he hL hh
  simp only [ck] at hc
  simp only [ev] at he
  split at hc
  · rename_i q1 q1' hca
    split at hc
    · rename_i q2 q2' hcc
      obtain ⟨⟨c1, c2, c3⟩, hc⟩ := if_some hc
      cases hc
      obtain ⟨n1, s1, ea, he⟩ := xb_e he
      obtain ⟨A1, A2, A3⟩ := ha _ _ _ _ sa _ _ _ _ _ _ _ hca ea hL hh
      simp only [Concl, va] at A3
      have key : ∃ ctl0 vs0, ev pft cl F pS c0 (((xtb b).lookup n1).getD i.toNat) s1 = some (ctl0, vs0, x') ∧ (SK (At p l e R s m args below meth c Q G st H0 hE cd) rv hF p1 brk cnt sa ctl vs x' → SK (At p l e R s m args below meth c Q G st H0 hE cd) rv hF p1 p1 cnt sa ctl0 vs0 x') := by
        split at he
        · rename_i v2 s2 hz
          cases he
          exact ⟨1, v2, hz, fun z => z⟩
        · rename_i hno
          refine ⟨ctl, vs, he, fun z => ?_⟩
          match ctl, z with
          | 0, z => exact z
          | 1, z => exact absurd he (hno _ _)
          | 2, z => exact z
          | 3, z => exact z
          | k + 4, z => exact z.elim
      obtain ⟨ctl0, vs0, ec, hsk⟩ := key
      obtain ⟨B1, B2, B3⟩ := hc0 _ _ _ _ sa _ _ _ _ _ _ _ hcc ec A2 (hx_tr hh A1)
      simp only [Concl, vc] at B3
      refine ⟨hx_tr A1 B1, B2, fun hd hbd hk => A3 hd (bd k9 (hx_tr hh A1) B1 hbd) ?_⟩
      rw [c2]
      refine at_Sw K0 c1 (fun q hq => B3 hd hbd q hq ?_)
      rw [c3]
      exact hsk hk
    · cases hc
  · cases hc
/-- a row's places, one after the other; behind the last nothing is done -/
theorem sn_14 (K : Kx p l e R s m args below meth c Q G st H0 hE cd cc nm own ini nL rt d cl F rv hF) (i : Int) (a b : xT) (ha : Snd p l e R s m args below meth c Q G st H0 hE cd own ini nL rt cl F rv hF a) (hb : (Snd p l e R s m args below meth c Q G st H0 hE cd own ini nL rt cl F rv hF b ∧ kcl (tagT b) = 5) ∨ ∃ i' a' b', b = nd 30 i' a' b') (va : kcl (tagT a) = 0) : Snd p l e R s m args below meth c Q G st H0 hE cd own ini nL rt cl F rv hF (nd 14 i a b) := by
  obtain ⟨k1, k2, k3, k4, k5, k6, k7, k8, k9, k10, k11, k12, k13, k14, k15, k16, k17, k18, k19, k20, ⟨k21, k21'⟩, k22, k23, k24, k25⟩ := K
  intro pc brk cnt dep sa g x ctl vs x' p1 p2 hc he hL hh
  simp only [ck] at hc
  simp only [ev] at he
  split at hc
  · rename_i q2 hq2
    obtain ⟨q1, hq1, hq2⟩ := bn_e hq2
    split at hc
    · rename_i q3 q3' hca
      obtain ⟨c1, hc⟩ := if_some hc
      split at hc
      · rename_i q4 hq4
        obtain ⟨n1, s1, ea, he⟩ := xb_e he
        split at he
        · rename_i o q hz
          obtain ⟨f1, he⟩ := if_some he
          obtain ⟨A1, A2, A3⟩ := ha _ _ _ _ ((0, i) :: (2, (g : Int)) :: (2, (g : Int)) :: sa) _ _ _ _ _ _ _ hca ea hL hh
          simp only [Concl, va] at A3
          have N1 := hx_put s1.2 o q n1
          have key : hx (hput s1.2 o q n1) x'.2 ∧ x'.1.length = nL ∧ ((sa.map fun a => cat a.1).sum ≤ dep → (x'.2.1 - hE.1 ≤ R.cells ∧ hsl x'.2 - hsl hE ≤ R.slots) → At p l e R s m args below meth c Q G st H0 hE cd p1 x' ((2, (g : Int)) :: sa) → At p l e R s m args below meth c Q G st H0 hE cd q4 (s1.1, hput s1.2 o q (xnar 1 n1)) ((2, (g : Int)) :: sa)) := by
            rcases hb with ⟨hb, vb⟩ | ⟨i', a', b', rfl⟩
            · obtain ⟨B1, B2, B3⟩ := hb _ _ _ _ sa _ _ _ _ _ _ _ hc he A2 (hx_tr hh (hx_tr A1 N1))
              simp only [Concl, vb] at B3
              exact ⟨B1, B2, fun hd hbd hk => B3 hd hbd hk⟩
            · simp only [ck] at hc
              simp only [ev] at he
              cases hc
              cases he
              exact ⟨hx_rf, A2, fun _ _ hk => hk⟩
          obtain ⟨B1, B2, B3⟩ := key
          refine ⟨hx_tr A1 (hx_tr N1 B1), B2, fun hd hbd => ?_⟩
          intro hk
          have d2 := bd k9 (hx_tr hh (hx_tr A1 N1)) B1 hbd
          have d1 := bd k9 (hx_tr hh A1) N1 d2
          have h5 := B3 hd hbd hk
          have h6 := at_Ast (kd := 1) k1 k2 k3 k6.1 (by decide) hz f1 hq4 h5
          have h7 := A3 (Nat.le_trans (sum1 (t := 0) (n := i) (sum1 (t := 2) (n := (g : Int)) (sum1 (t := 2) (n := (g : Int)) hd))) (show dep + cat 2 + cat 2 + cat 0 ≤ dep + 3 from Nat.le_refl _)) d1 (by rw [c1]; exact h6)
          exact at_Dup k1 k2 k3 (Or.inr rfl) hq1 (at_I k1 k2 k3 k4 k11 hq2 h7)
        · cases he
      · cases hc
    · cases hc
  · cases hc
theorem sn_13 (K : Kx p l e R s m args below meth c Q G st H0 hE cd cc nm own ini nL rt d cl F rv hF) (i : Int) (a b : xT) (hb : Snd p l e R s m args below meth c Q G st H0 hE cd own ini nL rt cl F rv hF b) (vb : kcl (tagT b) = 5) : Snd p l e R s m args below meth c Q G st H0 hE cd own ini nL rt cl F rv hF (nd 13 i a b) := by
  obtain ⟨k1, k2, k3, k4, k5, k6, k7, k8, k9, k10, k11, k12, k13, k14, k15, k16, k17, k18, k19, k20, ⟨k21, k21'⟩, k22, k23, k24, k25⟩ := K
  intro pc brk cnt dep sa g x ctl vs x' p1 p2 hc he hL hh
  simp only [ck] at hc
  simp only [ev] at he
  split at hc
  · rename_i q2 hq2
    obtain ⟨q1, hq1, hq2⟩ := bn_e hq2
    obtain ⟨c1, hcb⟩ := if_some hc
    have N1 : hx x.2 (hnew pft x.2 (i.toNat / 1000) (i.toNat % 1000)) := hx_new _ _ _ _
    obtain ⟨ws, s1, eb, he⟩ := xa_e he
    cases he
    obtain ⟨B1, B2, B3⟩ := hb _ _ _ _ sa _ _ _ _ _ _ _ hcb eb hL (hx_tr hh N1)
    simp only [Concl, vb] at B3
    refine ⟨hx_tr N1 B1, B2, fun hd hbd => ?_⟩
    intro hk
    have d1 := bd k9 (hx_tr hh N1) B1 hbd
    have h5 := B3 hd hbd hk
    have h6 := at_NewA (kd := i.toNat / 1000) (n := ((i.toNat % 1000 : Nat) : Int)) k1 k2 k3 k6.1 k17 hh k9 (by omega) (by omega) hq2 d1.1 (by rw [Int.toNat_natCast]; exact d1.2) (by rw [Int.toNat_natCast]; exact h5)
    exact at_I k1 k2 k3 k4 k11 hq1 h6
  · cases hc

end Sound5
