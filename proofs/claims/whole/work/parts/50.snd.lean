/-! SOUNDNESS: what the check allows, the machine does -/
theorem xb_e {r : Option xR} {f : Int → xS → Option xR} {z : xR} (h : xb r f = some z) : ∃ n s, r = some (0, [n], s) ∧ f n s = some z := by
  unfold xb at h
  split at h
  · rename_i n s
    exact ⟨n, s, rfl, h⟩
  · cases h
theorem xa_e {r : Option xR} {f : List Int → xS → Option xR} {z : xR} (h : xa r f = some z) : ∃ vs s, r = some (0, vs, s) ∧ f vs s = some z := by
  unfold xa at h
  split at h
  · rename_i n s
    exact ⟨n, s, rfl, h⟩
  · cases h
theorem xq_e {r : Option xR} {f : xS → Option xR} {z : xR} (h : xq r f = some z) : (∃ vs s, r = some (0, vs, s) ∧ f s = some z) ∨ ∃ k vs s, r = some (k + 1, vs, s) ∧ z = (k + 1, vs, s) := by
  unfold xq at h
  split at h
  · rename_i vs s
    exact Or.inl ⟨vs, s, rfl, h⟩
  · rename_i k vs s
    exact Or.inr ⟨k, vs, s, rfl, (Option.some.inj h).symm⟩
  · cases h
theorem bd {hE h1 h2 : xH} {C D : Nat} (hS : pS ≤ hE.1) (h0 : hx hE h1) (h : hx h1 h2) (b : h2.1 - hE.1 ≤ C ∧ hsl h2 - hsl hE ≤ D) : h1.1 - hE.1 ≤ C ∧ hsl h1 - hsl hE ≤ D := by
  have a1 := h0.1
  have a2 := h.1
  have a3 := hsl_le hS h0
  have a4 := hsl_le (Nat.le_trans hS a1) h
  omega
def kcl (k : Nat) : Nat := if k ≤ 13 ∨ k = 16 ∨ k = 17 ∨ k = 18 then 0 else if 20 ≤ k ∧ k ≤ 25 then 1 else if k = 57 ∨ k = 58 then 3 else if 50 ≤ k ∧ k ≤ 52 then 4 else if k = 14 then 5 else 2
def tagT : xT → Nat
  | .tag k _ => k
  | .group (.tag k _) _ => k
  | _ => 99
def SK (A : Nat → xS → xL → Prop) (rv : List Int) (hF : xH) (p1 brk cnt : Nat) (sa : xL) (ctl : Nat) (vs : List Int) (x' : xS) : Prop := match ctl with
  | 0 => A p1 x' sa
  | 1 => A brk x' sa
  | 2 => A cnt x' sa
  | 3 => vs = rv ∧ x'.2 = hF
  | _ => False
def Concl (A : Nat → xS → xL → Prop) (rv : List Int) (hF : xH) (ty : Nat) (tA gs : List Nat) (k pc p1 p2 brk cnt g : Nat) (x : xS) (sa : xL) (ctl : Nat) (vs : List Int) (x' : xS) : Prop := match kcl k with
  | 0 => A p1 x' (vs.map (fun n => (ty, n)) ++ sa) → A pc x sa
  | 1 => ∀ n, vs = [n] → A (if n = 1 then p1 else p2) x' sa → A pc x sa
  | 3 => A p1 x' ((tA.zip vs).reverse ++ sa) → A pc x sa
  | 4 => ∀ q, gs[g]? = some q → SK A rv hF p2 brk cnt sa ctl vs x' → A q x sa
  | 5 => A p1 x' ((2, (g : Int)) :: sa) → A pc x ((2, (g : Int)) :: sa)
  | _ => SK A rv hF p1 brk cnt sa ctl vs x' → A pc x sa
def Snd (p : Program) (l : Launch) (e : Env) (R : Room) (s : State) (m : MethodId) (args : Array Value) (below : List Frame) (meth : Method) (c : Code) (Q : State → Prop) (G : xG) (st : xStt) (H0 : Heap) (hE : xH) (cd : xC) (own : Nat) (ini : Bool) (nL rt : Nat) (cl : Nat → List Int → xH → Option (List Int × xH)) (F : Nat) (rv : List Int) (hF : xH) (t : xT) : Prop :=
  ∀ (pc brk cnt dep : Nat) (sa : xL) (g : Nat) (x : xS) (ctl : Nat) (vs : List Int) (x' : xS) (p1 p2 : Nat), ck pft pfn cd ppl pmk own ini rt t pc brk cnt dep = some (p1, p2) → ev pft cl F pS t g x = some (ctl, vs, x') → x.1.length = nL → hx hE x.2 →
    hx x.2 x'.2 ∧ x'.1.length = nL ∧ ((sa.map fun a => cat a.1).sum ≤ dep → (x'.2.1 - hE.1 ≤ R.cells ∧ hsl x'.2 - hsl hE ≤ R.slots) → Concl (At p l e R s m args below meth c Q G st H0 hE cd) rv hF (tyT pft pmk t) (tyA pft pmk t) (gst t) (tagT t) pc p1 p2 brk cnt g x sa ctl vs x')
def CL (l : Launch) (G : xG) (st : xStt) (H0 : Heap) (d : Nat) (cl : Nat → List Int → xH → Option (List Int × xH)) : Prop := ∀ mi vs h r h', cl mi vs h = some (r, h') → hx h h' ∧ ∀ kind ts rt, pmk mi = some (kind, ts, rt) → vs.length = ts.length ∧ (pS ≤ h.1 → MetM l G st H0 d mi vs h r h') ∧ (kind = 1 → ∀ y, yL[mi]? = some y → ∃ ci q, pCl[ci]? = some q ∧ q.1 = y.cls ∧ ∃ a vs', vs = a :: vs' ∧ (xob h ci a).isSome = true) ∧ xret rt r = true
def retI (rt : Nat) : Instr := match rty rt with
  | 1 => .lreturn
  | 2 => .areturn
  | _ => .ireturn
/-- what a method's body is walked with -/
def Kx (p : Program) (l : Launch) (e : Env) (R : Room) (s : State) (m : MethodId) (args : Array Value) (below : List Frame) (meth : Method) (c : Code) (Q : State → Prop) (G : xG) (st : xStt) (H0 : Heap) (hE : xH) (cd : xC) (cc : ByteArray) (nm : String) (own : Nat) (ini : Bool) (nL rt d : Nat) (cl : Nat → List Int → xH → Option (List Int × xH)) (F : Nat) (rv : List Int) (hF : xH) : Prop :=
  p.tables.exec = Jvm.exec ∧ c.code = cc ∧ CdOK cd cc ∧ s.vm.findClass nm = some m.cls ∧ (∀ w ∈ gw, w.before args s = true) ∧ WS G st s ∧ StK st ∧ HR G st H0 hE s.heap ∧ pS ≤ hE.1 ∧ nL = c.maxLocals ∧
  PoolI nm own ppl args s ∧ PoolJ nm own ppl args s ∧ PoolF nm own ppl args s ∧ PoolS G nm own ppl args s ∧ PoolT G nm own ppl s ∧ PoolC nm own ppl args s ∧ PoolA args s ∧ PoolO nm own ppl args s ∧ PoolM nm own ppl args s ∧ PoolY nm own ppl args s ∧
  (d + 1 ≤ R.frames ∧ 83 + 100 * d ≤ R.locals) ∧ (ini = true → meth.name = "<init>") ∧ (∀ q : vw_C, pCl[own]? = some q → q.1 = nm) ∧ CL l G st H0 d cl ∧
  (∀ (pc : Nat) (H : Heap) (ls : Array Slot) (locs : List Loc), HR G st H0 hF H → (∀ q ∈ locs, Own G q.base) → (rt = 9 → rv = [] → cd pc = some (.return_, 1) → W p l e R s m args below meth c H locs (hF.1 - hE.1) (hsl hF - hsl hE) Q (F0 m pc ls [])) ∧ (rt ≠ 9 → ∀ n v, rv = [n] → rel (ro G) (rty rt) n v → cd pc = some (retI rt, 1) → W p l e R s m args below meth c H locs (hF.1 - hE.1) (hsl hF - hsl hE) Q (F0 m pc ls [v])))
theorem hx_len_lset (L : xL) (i t : Nat) (n : Int) : (lset L i t n).length = L.length := by
  unfold lset
  split <;> simp [lkill_len]
section Sound
variable {p : Program} {l : Launch} {e : Env} {R : Room} {s : State} {m : MethodId} {args : Array Value} {below : List Frame} {meth : Method} {c : Code} {Q : State → Prop}
variable {G : xG} {st : xStt} {H0 : Heap} {hE : xH} {cd : xC} {cc : ByteArray} {nm : String} {own : Nat} {ini : Bool} {nL rt d : Nat} {cl : Nat → List Int → xH → Option (List Int × xH)} {F : Nat} {rv : List Int} {hF : xH}

theorem sn_0 (K : Kx p l e R s m args below meth c Q G st H0 hE cd cc nm own ini nL rt d cl F rv hF) (i : Int) (a b : xT) : Snd p l e R s m args below meth c Q G st H0 hE cd own ini nL rt cl F rv hF (nd 0 i a b) := by
  obtain ⟨k1, k2, k3, k4, k5, k6, k7, k8, k9, k10, k11, k12, k13, k14, k15, k16, k17, k18, k19, k20, ⟨k21, k21'⟩, k22, k23, k24, k25⟩ := K
  intro pc brk cnt dep sa g x ctl vs x' p1 p2 hc he hL hh
  simp only [ck, Option.map_eq_some_iff] at hc
  simp only [ev] at he
  cases he
  obtain ⟨q, hq, hc⟩ := hc
  cases hc
  exact ⟨hx_rf, hL, fun _ _ hk => at_I k1 k2 k3 k4 k11 hq hk⟩

theorem sn_1 (K : Kx p l e R s m args below meth c Q G st H0 hE cd cc nm own ini nL rt d cl F rv hF) (i : Int) (a b : xT) : Snd p l e R s m args below meth c Q G st H0 hE cd own ini nL rt cl F rv hF (nd 1 i a b) := by
  obtain ⟨k1, k2, k3, k4, k5, k6, k7, k8, k9, k10, k11, k12, k13, k14, k15, k16, k17, k18, k19, k20, ⟨k21, k21'⟩, k22, k23, k24, k25⟩ := K
  intro pc brk cnt dep sa g x ctl vs x' p1 p2 hc he hL hh
  simp only [ck] at hc
  simp only [ev] at he
  cases he
  refine ⟨hx_rf, hL, fun _ _ hk => ?_⟩
  split at hc
  · rename_i n heq
    split at hc
    · rename_i hv
      cases hc
      refine At.row k1 k2 k3 heq (fun _ => by intro q; cases q) hk fun H ls locs vs h1 h2 h3 h4 k => ?_
      exact lv_lconst k1 k2 (k3 _ _ _ heq) rfl (k _ _ _ _ h1 h2 h3 ⟨⟨_, rfl, hv.symm⟩, h4⟩)
    · cases hc
  · rename_i n heq
    split at hc
    · rename_i hv
      cases hc
      obtain ⟨v, e1, e2⟩ := k12 _ _ hv
      refine At.row k1 k2 k3 heq (fun _ => by intro q; cases q) hk fun H ls locs vs h1 h2 h3 h4 k => ?_
      exact lv_ldc2 k1 k2 k4 e2 (k3 _ _ _ heq) (k _ _ _ _ h1 h2 h3 ⟨⟨_, rfl, e1.symm⟩, h4⟩)
    · cases hc
  · cases hc

theorem sn_2 (K : Kx p l e R s m args below meth c Q G st H0 hE cd cc nm own ini nL rt d cl F rv hF) (i : Int) (a b : xT) : Snd p l e R s m args below meth c Q G st H0 hE cd own ini nL rt cl F rv hF (nd 2 i a b) := by
  obtain ⟨k1, k2, k3, k4, k5, k6, k7, k8, k9, k10, k11, k12, k13, k14, k15, k16, k17, k18, k19, k20, ⟨k21, k21'⟩, k22, k23, k24, k25⟩ := K
  intro pc brk cnt dep sa g x ctl vs x' p1 p2 hc he hL hh
  simp only [ck, Option.map_eq_some_iff] at hc
  simp only [ev] at he
  obtain ⟨q, hq, hc⟩ := hc
  cases hc
  split at he
  · rename_i t n heq
    split at he
    · rename_i ht
      cases he
      subst ht
      exact ⟨hx_rf, hL, fun _ _ hk => at_Ld k1 k2 k3 heq hq hk⟩
    · cases he
  · cases he

theorem if_some {α : Type} {P : Prop} [Decidable P] {a : Option α} {z : α} (h : (if P then a else none) = some z) : P ∧ a = some z := by
  split at h
  · rename_i q
    exact ⟨q, h⟩
  · cases h
theorem mp_e {q : Option Nat} {p1 p2 : Nat} (h : q.map (fun y => (y, 0)) = some (p1, p2)) : q = some p1 := by
  obtain ⟨y, hy, h⟩ := Option.map_eq_some_iff.mp h
  cases h
  exact hy
theorem bn_e {α β : Type} {q : Option α} {f : α → Option β} {z : β} (h : q.bind f = some z) : ∃ y, q = some y ∧ f y = some z := Option.bind_eq_some_iff.mp h
theorem sum1 {t : Nat} {n : Int} {sa : xL} {dep : Nat} (h : (sa.map fun a => cat a.1).sum ≤ dep) : (((t, n) :: sa).map fun a => cat a.1).sum ≤ dep + cat t := by
  simp only [List.map_cons, List.sum_cons]
  omega

theorem sn_3 (K : Kx p l e R s m args below meth c Q G st H0 hE cd cc nm own ini nL rt d cl F rv hF) (i : Int) (a b : xT) (ha : Snd p l e R s m args below meth c Q G st H0 hE cd own ini nL rt cl F rv hF a) (hb : Snd p l e R s m args below meth c Q G st H0 hE cd own ini nL rt cl F rv hF b) (va : kcl (tagT a) = 0) (vb : kcl (tagT b) = 0) : Snd p l e R s m args below meth c Q G st H0 hE cd own ini nL rt cl F rv hF (nd 3 i a b) := by
  obtain ⟨k1, k2, k3, k4, k5, k6, k7, k8, k9, k10, k11, k12, k13, k14, k15, k16, k17, k18, k19, k20, ⟨k21, k21'⟩, k22, k23, k24, k25⟩ := K
  intro pc brk cnt dep sa g x ctl vs x' p1 p2 hc he hL hh
  simp only [ck] at hc
  simp only [ev] at he
  split at hc
  · rename_i q1 q1' hca
    split at hc
    · rename_i q2 q2' hcb
      obtain ⟨⟨c1, c2, c3⟩, hc⟩ := if_some hc
      have hq := mp_e hc
      obtain ⟨n1, s1, ea, he⟩ := xb_e he
      obtain ⟨n2, s2, eb, he⟩ := xb_e he
      split at he
      case h_2 => cases he
      rename_i z hz
      cases he
      obtain ⟨A1, A2, A3⟩ := ha _ _ _ _ sa _ _ _ _ _ _ _ hca ea hL hh
      obtain ⟨B1, B2, B3⟩ := hb _ _ _ _ ((tyT pft pmk a, n1) :: sa) _ _ _ _ _ _ _ hcb eb A2 (hx_tr hh A1)
      simp only [Concl, va, vb] at A3 B3
      refine ⟨hx_tr A1 B1, B2, fun hd hbd hk => A3 hd (bd k9 (hx_tr hh A1) B1 hbd) (B3 (sum1 hd) hbd ?_)⟩
      have hk2 : At p l e R s m args below meth c Q G st H0 hE cd p1 x' ((if i.toNat < 11 then 0 else 1, z) :: sa) := hk
      have := at_Bin k1 k2 k3 c1 hz hq hk2
      rw [c2, c3]
      exact this
    · cases hc
  · cases hc

theorem sn_6 (K : Kx p l e R s m args below meth c Q G st H0 hE cd cc nm own ini nL rt d cl F rv hF) (i : Int) (a b : xT) (ha : Snd p l e R s m args below meth c Q G st H0 hE cd own ini nL rt cl F rv hF a) (hb : Snd p l e R s m args below meth c Q G st H0 hE cd own ini nL rt cl F rv hF b) (va : kcl (tagT a) = 0) (vb : kcl (tagT b) = 0) : Snd p l e R s m args below meth c Q G st H0 hE cd own ini nL rt cl F rv hF (nd 6 i a b) := by
  obtain ⟨k1, k2, k3, k4, k5, k6, k7, k8, k9, k10, k11, k12, k13, k14, k15, k16, k17, k18, k19, k20, ⟨k21, k21'⟩, k22, k23, k24, k25⟩ := K
  intro pc brk cnt dep sa g x ctl vs x' p1 p2 hc he hL hh
  simp only [ck] at hc
  simp only [ev] at he
  split at hc
  · rename_i q1 q1' hca
    split at hc
    · rename_i q2 q2' hcb
      obtain ⟨⟨c1, c2, c3⟩, hc⟩ := if_some hc
      have hq := mp_e hc
      obtain ⟨n1, s1, ea, he⟩ := xb_e he
      obtain ⟨n2, s2, eb, he⟩ := xb_e he
      split at he
      case h_2 => cases he
      rename_i o q hz
      cases he
      obtain ⟨A1, A2, A3⟩ := ha _ _ _ _ sa _ _ _ _ _ _ _ hca ea hL hh
      obtain ⟨B1, B2, B3⟩ := hb _ _ _ _ ((tyT pft pmk a, n1) :: sa) _ _ _ _ _ _ _ hcb eb A2 (hx_tr hh A1)
      simp only [Concl, va, vb] at A3 B3
      refine ⟨hx_tr A1 B1, B2, fun hd hbd hk => A3 hd (bd k9 (hx_tr hh A1) B1 hbd) (B3 (by rw [c1]; exact sum1 hd) hbd ?_)⟩
      have hk2 : At p l e R s m args below meth c Q G st H0 hE cd p1 x' ((aty i.toNat, x'.2.2.2.2 o q) :: sa) := hk
      have := at_Ald k1 k2 k3 k6.1 k6.2.2.1 k8 (hx_tr hh (hx_tr A1 B1)) c3 hz hq hk2
      rw [c1, c2]
      exact this
    · cases hc
  · cases hc

theorem sn_20 (K : Kx p l e R s m args below meth c Q G st H0 hE cd cc nm own ini nL rt d cl F rv hF) (i : Int) (a b : xT) (ha : Snd p l e R s m args below meth c Q G st H0 hE cd own ini nL rt cl F rv hF a) (hb : Snd p l e R s m args below meth c Q G st H0 hE cd own ini nL rt cl F rv hF b) (va : kcl (tagT a) = 0) (vb : kcl (tagT b) = 0) : Snd p l e R s m args below meth c Q G st H0 hE cd own ini nL rt cl F rv hF (nd 20 i a b) := by
  obtain ⟨k1, k2, k3, k4, k5, k6, k7, k8, k9, k10, k11, k12, k13, k14, k15, k16, k17, k18, k19, k20, ⟨k21, k21'⟩, k22, k23, k24, k25⟩ := K
  intro pc brk cnt dep sa g x ctl vs x' p1 p2 hc he hL hh
  simp only [ck] at hc
  simp only [ev] at he
  split at hc
  · rename_i q1 q1' hca
    split at hc
    · rename_i q2 q2' hcb
      obtain ⟨⟨c1, c2, c3⟩, hc⟩ := if_some hc
      obtain ⟨n1, s1, ea, he⟩ := xb_e he
      obtain ⟨n2, s2, eb, he⟩ := xb_e he
      cases he
      obtain ⟨A1, A2, A3⟩ := ha _ _ _ _ sa _ _ _ _ _ _ _ hca ea hL hh
      obtain ⟨B1, B2, B3⟩ := hb _ _ _ _ ((tyT pft pmk a, n1) :: sa) _ _ _ _ _ _ _ hcb eb A2 (hx_tr hh A1)
      simp only [Concl, va, vb] at A3 B3
      refine ⟨hx_tr A1 B1, B2, fun hd hbd => ?_⟩
      intro n hn hk
      cases hn
      refine A3 hd (bd k9 (hx_tr hh A1) B1 hbd) (B3 (by rw [c1]; exact sum1 hd) hbd ?_)
      have hk2 : At p l e R s m args below meth c Q G st H0 hE cd (if xcmp i.toNat n1 n2 then p1 else p2) x' sa := by
        by_cases q : xcmp i.toNat n1 n2 = true
        · simpa [q] using hk
        · simpa [q] using hk
      have := at_B2 k1 k2 k3 c3 hc hk2
      rw [c1, c2]
      exact this
    · cases hc
  · cases hc

theorem sn_22 (K : Kx p l e R s m args below meth c Q G st H0 hE cd cc nm own ini nL rt d cl F rv hF) (i : Int) (a b : xT) (ha : Snd p l e R s m args below meth c Q G st H0 hE cd own ini nL rt cl F rv hF a) (hb : Snd p l e R s m args below meth c Q G st H0 hE cd own ini nL rt cl F rv hF b) (va : kcl (tagT a) = 0) (vb : kcl (tagT b) = 0) : Snd p l e R s m args below meth c Q G st H0 hE cd own ini nL rt cl F rv hF (nd 22 i a b) := by
  obtain ⟨k1, k2, k3, k4, k5, k6, k7, k8, k9, k10, k11, k12, k13, k14, k15, k16, k17, k18, k19, k20, ⟨k21, k21'⟩, k22, k23, k24, k25⟩ := K
  intro pc brk cnt dep sa g x ctl vs x' p1 p2 hc he hL hh
  simp only [ck] at hc
  simp only [ev] at he
  split at hc
  · rename_i q1 q1' hca
    split at hc
    · rename_i q2 q2' hcb
      obtain ⟨⟨c1, c2, c3⟩, hc⟩ := if_some hc
      obtain ⟨q3, hq3, hc⟩ := bn_e hc
      obtain ⟨n1, s1, ea, he⟩ := xb_e he
      obtain ⟨n2, s2, eb, he⟩ := xb_e he
      cases he
      obtain ⟨A1, A2, A3⟩ := ha _ _ _ _ sa _ _ _ _ _ _ _ hca ea hL hh
      obtain ⟨B1, B2, B3⟩ := hb _ _ _ _ ((tyT pft pmk a, n1) :: sa) _ _ _ _ _ _ _ hcb eb A2 (hx_tr hh A1)
      simp only [Concl, va, vb] at A3 B3
      refine ⟨hx_tr A1 B1, B2, fun hd hbd => ?_⟩
      intro n hn hk
      cases hn
      refine A3 hd (bd k9 (hx_tr hh A1) B1 hbd) (B3 (by rw [c1]; exact sum1 hd) hbd ?_)
      have hk2 : At p l e R s m args below meth c Q G st H0 hE cd (if xcmp i.toNat n1 n2 then p1 else p2) x' sa := by
        by_cases q : xcmp i.toNat n1 n2 = true
        · simpa [q] using hk
        · simpa [q] using hk
      have := at_LC k1 k2 k3 c3 hq3 hc hk2
      rw [c1, c2]
      exact this
    · cases hc
  · cases hc

theorem sn_34 (K : Kx p l e R s m args below meth c Q G st H0 hE cd cc nm own ini nL rt d cl F rv hF) (i : Int) (a b : xT) (ha : Snd p l e R s m args below meth c Q G st H0 hE cd own ini nL rt cl F rv hF a) (hb : Snd p l e R s m args below meth c Q G st H0 hE cd own ini nL rt cl F rv hF b) (va : kcl (tagT a) = 0) (vb : kcl (tagT b) = 0) : Snd p l e R s m args below meth c Q G st H0 hE cd own ini nL rt cl F rv hF (nd 34 i a b) := by
  obtain ⟨k1, k2, k3, k4, k5, k6, k7, k8, k9, k10, k11, k12, k13, k14, k15, k16, k17, k18, k19, k20, ⟨k21, k21'⟩, k22, k23, k24, k25⟩ := K
  intro pc brk cnt dep sa g x ctl vs x' p1 p2 hc he hL hh
  simp only [ck] at hc
  simp only [ev] at he
  split at hc
  · rename_i q1 q1' hca
    split at hc
    · rename_i q2 q2' hcb
      obtain ⟨⟨c1, c2, c3⟩, hc⟩ := if_some hc
      have hq := mp_e hc
      obtain ⟨n1, s1, ea, he⟩ := xb_e he
      obtain ⟨n2, s2, eb, he⟩ := xb_e he
      split at he
      case h_2 => cases he
      rename_i o hz
      obtain ⟨⟨f1, f2⟩, he⟩ := if_some he
      cases he
      obtain ⟨A1, A2, A3⟩ := ha _ _ _ _ sa _ _ _ _ _ _ _ hca ea hL hh
      obtain ⟨B1, B2, B3⟩ := hb _ _ _ _ ((tyT pft pmk a, n1) :: sa) _ _ _ _ _ _ _ hcb eb A2 (hx_tr hh A1)
      simp only [Concl, va, vb] at A3 B3
      refine ⟨hx_tr (hx_tr A1 B1) (hx_put _ _ _ _), B2, fun hd hbd hk => ?_⟩
      have hbd2 : s2.2.1 - hE.1 ≤ R.cells ∧ hsl s2.2 - hsl hE ≤ R.slots := bd k9 (hx_tr hh (hx_tr A1 B1)) (hx_put _ _ _ _) hbd
      refine A3 hd (bd k9 (hx_tr hh A1) B1 hbd2) (B3 (by rw [c1]; exact sum1 hd) hbd2 ?_)
      have hk2 : At p l e R s m args below meth c Q G st H0 hE cd p1 (s2.1, hput s2.2 o (i.toNat % 1000) n2) sa := hk
      have := at_Put k1 k2 k3 k4 k5 k6.1 k13 hz f1 f2 (fun z => ⟨k22 (c3 z).1, fun q hq => by rw [(c3 z).2] at hq; exact k23 q hq⟩) hq hk2
      rw [c1, c2]
      exact this
    · cases hc
  · cases hc

theorem sn_4 (K : Kx p l e R s m args below meth c Q G st H0 hE cd cc nm own ini nL rt d cl F rv hF) (i : Int) (a b : xT) (ha : Snd p l e R s m args below meth c Q G st H0 hE cd own ini nL rt cl F rv hF a) (va : kcl (tagT a) = 0) : Snd p l e R s m args below meth c Q G st H0 hE cd own ini nL rt cl F rv hF (nd 4 i a b) := by
  obtain ⟨k1, k2, k3, k4, k5, k6, k7, k8, k9, k10, k11, k12, k13, k14, k15, k16, k17, k18, k19, k20, ⟨k21, k21'⟩, k22, k23, k24, k25⟩ := K
  intro pc brk cnt dep sa g x ctl vs x' p1 p2 hc he hL hh
  simp only [ck] at hc
  simp only [ev] at he
  split at hc
  · rename_i q1 q1' hca
    obtain ⟨⟨c1, c2⟩, hc⟩ := if_some hc
    have hq := mp_e hc
    obtain ⟨n1, s1, ea, he⟩ := xb_e he
    split at he
    case h_2 => cases he
    rename_i z hz
    cases he
    obtain ⟨A1, A2, A3⟩ := ha _ _ _ _ sa _ _ _ _ _ _ _ hca ea hL hh
    simp only [Concl, va] at A3
    refine ⟨A1, A2, fun hd hbd hk => A3 hd hbd ?_⟩
    have hk2 : At p l e R s m args below meth c Q G st H0 hE cd p1 x' ((if i.toNat = 1 then 1 else 0, z) :: sa) := hk
    have := at_Un k1 k2 k3 c1 hz hq hk2
    rw [c2]
    exact this
  · cases hc

theorem sn_5 (K : Kx p l e R s m args below meth c Q G st H0 hE cd cc nm own ini nL rt d cl F rv hF) (i : Int) (a b : xT) (ha : Snd p l e R s m args below meth c Q G st H0 hE cd own ini nL rt cl F rv hF a) (va : kcl (tagT a) = 0) : Snd p l e R s m args below meth c Q G st H0 hE cd own ini nL rt cl F rv hF (nd 5 i a b) := by
  obtain ⟨k1, k2, k3, k4, k5, k6, k7, k8, k9, k10, k11, k12, k13, k14, k15, k16, k17, k18, k19, k20, ⟨k21, k21'⟩, k22, k23, k24, k25⟩ := K
  intro pc brk cnt dep sa g x ctl vs x' p1 p2 hc he hL hh
  simp only [ck] at hc
  simp only [ev] at he
  split at hc
  · rename_i q1 q1' hca
    obtain ⟨⟨c1, c2⟩, hc⟩ := if_some hc
    have hq := mp_e hc
    obtain ⟨n1, s1, ea, he⟩ := xb_e he
    split at he
    case h_2 => cases he
    rename_i o hz
    cases he
    obtain ⟨A1, A2, A3⟩ := ha _ _ _ _ sa _ _ _ _ _ _ _ hca ea hL hh
    simp only [Concl, va] at A3
    refine ⟨A1, A2, fun hd hbd hk => A3 hd hbd ?_⟩
    have hk2 : At p l e R s m args below meth c Q G st H0 hE cd p1 x' ((rty (pft (i.toNat / 1000) (i.toNat % 1000)), x'.2.2.2.2 o (i.toNat % 1000)) :: sa) := hk
    have := at_Get k1 k2 k3 k4 k5 k6.1 k13 k6.2.1 k7 k8 (hx_tr hh A1) hz c2 hq hk2
    rw [c1]
    exact this
  · cases hc

theorem sn_7 (K : Kx p l e R s m args below meth c Q G st H0 hE cd cc nm own ini nL rt d cl F rv hF) (i : Int) (a b : xT) (ha : Snd p l e R s m args below meth c Q G st H0 hE cd own ini nL rt cl F rv hF a) (va : kcl (tagT a) = 0) : Snd p l e R s m args below meth c Q G st H0 hE cd own ini nL rt cl F rv hF (nd 7 i a b) := by
  obtain ⟨k1, k2, k3, k4, k5, k6, k7, k8, k9, k10, k11, k12, k13, k14, k15, k16, k17, k18, k19, k20, ⟨k21, k21'⟩, k22, k23, k24, k25⟩ := K
  intro pc brk cnt dep sa g x ctl vs x' p1 p2 hc he hL hh
  simp only [ck] at hc
  simp only [ev] at he
  split at hc
  · rename_i q1 q1' hca
    obtain ⟨⟨c1, c2⟩, hc⟩ := if_some hc
    have hq := mp_e hc
    obtain ⟨n1, s1, ea, he⟩ := xb_e he
    obtain ⟨⟨f1, f2, f3⟩, he⟩ := if_some he
    cases he
    obtain ⟨A1, A2, A3⟩ := ha _ _ _ _ sa _ _ _ _ _ _ _ hca ea hL hh
    simp only [Concl, va] at A3
    refine ⟨A1, A2, fun hd hbd hk => A3 hd hbd ?_⟩
    have hk2 : At p l e R s m args below meth c Q G st H0 hE cd p1 x' ((0, (x'.2.2.2.1 n1.toNat : Int)) :: sa) := hk
    have := at_Len k1 k2 k3 k6.1 k6.2.2.1 k8 (hx_tr hh A1) (o := n1.toNat) c2 (by omega) f3 hq hk2
    rw [c1]
    rw [show ((n1.toNat : Nat) : Int) = n1 by omega] at this
    exact this
  · cases hc

theorem sn_12 (K : Kx p l e R s m args below meth c Q G st H0 hE cd cc nm own ini nL rt d cl F rv hF) (i : Int) (a b : xT) (ha : Snd p l e R s m args below meth c Q G st H0 hE cd own ini nL rt cl F rv hF a) (va : kcl (tagT a) = 0) : Snd p l e R s m args below meth c Q G st H0 hE cd own ini nL rt cl F rv hF (nd 12 i a b) := by
  obtain ⟨k1, k2, k3, k4, k5, k6, k7, k8, k9, k10, k11, k12, k13, k14, k15, k16, k17, k18, k19, k20, ⟨k21, k21'⟩, k22, k23, k24, k25⟩ := K
  intro pc brk cnt dep sa g x ctl vs x' p1 p2 hc he hL hh
  simp only [ck] at hc
  simp only [ev] at he
  split at hc
  · rename_i q1 q1' hca
    obtain ⟨⟨c1, c2⟩, hc⟩ := if_some hc
    have hq := mp_e hc
    obtain ⟨n1, s1, ea, he⟩ := xb_e he
    obtain ⟨f1, he⟩ := if_some he
    cases he
    obtain ⟨A1, A2, A3⟩ := ha _ _ _ _ sa _ _ _ _ _ _ _ hca ea hL hh
    simp only [Concl, va] at A3
    refine ⟨hx_tr A1 (hx_new _ _ _ _), A2, fun hd hbd hk => A3 hd (bd k9 (hx_tr hh A1) (hx_new _ _ _ _) hbd) ?_⟩
    have hk2 : At p l e R s m args below meth c Q G st H0 hE cd p1 (s1.1, hnew pft s1.2 i.toNat n1.toNat) ((2, (s1.2.1 : Int)) :: sa) := hk
    have := at_NewA k1 k2 k3 k6.1 k17 (hx_tr hh A1) k9 c2 f1 hq hbd.1 hbd.2 hk2
    rw [c1]
    exact this
  · cases hc

theorem sn_21 (K : Kx p l e R s m args below meth c Q G st H0 hE cd cc nm own ini nL rt d cl F rv hF) (i : Int) (a b : xT) (ha : Snd p l e R s m args below meth c Q G st H0 hE cd own ini nL rt cl F rv hF a) (va : kcl (tagT a) = 0) : Snd p l e R s m args below meth c Q G st H0 hE cd own ini nL rt cl F rv hF (nd 21 i a b) := by
  obtain ⟨k1, k2, k3, k4, k5, k6, k7, k8, k9, k10, k11, k12, k13, k14, k15, k16, k17, k18, k19, k20, ⟨k21, k21'⟩, k22, k23, k24, k25⟩ := K
  intro pc brk cnt dep sa g x ctl vs x' p1 p2 hc he hL hh
  simp only [ck] at hc
  simp only [ev] at he
  split at hc
  · rename_i q1 q1' hca
    obtain ⟨⟨c1, c2⟩, hc⟩ := if_some hc
    obtain ⟨n1, s1, ea, he⟩ := xb_e he
    cases he
    obtain ⟨A1, A2, A3⟩ := ha _ _ _ _ sa _ _ _ _ _ _ _ hca ea hL hh
    simp only [Concl, va] at A3
    refine ⟨A1, A2, fun hd hbd => ?_⟩
    intro n hn hk
    cases hn
    refine A3 hd hbd ?_
    have hk2 : At p l e R s m args below meth c Q G st H0 hE cd (if xcmp i.toNat n1 0 then p1 else p2) x' sa := by
      by_cases q : xcmp i.toNat n1 0 = true
      · simpa [q] using hk
      · simpa [q] using hk
    have := at_B1 k1 k2 k3 c2 hc hk2
    rw [c1]
    exact this
  · cases hc

theorem sn_37 (K : Kx p l e R s m args below meth c Q G st H0 hE cd cc nm own ini nL rt d cl F rv hF) (i : Int) (a b : xT) (ha : Snd p l e R s m args below meth c Q G st H0 hE cd own ini nL rt cl F rv hF a) (va : kcl (tagT a) = 0) : Snd p l e R s m args below meth c Q G st H0 hE cd own ini nL rt cl F rv hF (nd 37 i a b) := by
  obtain ⟨k1, k2, k3, k4, k5, k6, k7, k8, k9, k10, k11, k12, k13, k14, k15, k16, k17, k18, k19, k20, ⟨k21, k21'⟩, k22, k23, k24, k25⟩ := K
  intro pc brk cnt dep sa g x ctl vs x' p1 p2 hc he hL hh
  simp only [ck] at hc
  simp only [ev] at he
  split at hc
  · rename_i q1 q1' hca
    obtain ⟨c1, hc⟩ := if_some hc
    have hq := mp_e hc
    obtain ⟨n1, s1, ea, he⟩ := xb_e he
    cases he
    obtain ⟨A1, A2, A3⟩ := ha _ _ _ _ sa _ _ _ _ _ _ _ hca ea hL hh
    simp only [Concl, va] at A3
    refine ⟨A1, A2, fun hd hbd hk => A3 hd hbd ?_⟩
    exact at_Pop k1 k2 k3 c1 hq hk
  · cases hc

end Sound
