/-! WHAT THE POOL GIVES to a method's walk; what is so of every method -/

def retOK (rt : Nat) (ret : Option FieldType) : Bool := match rt, ret with
  | 9, none => true
  | 0, some .int => true
  | 1, some .long => true
  | 2, some (.object _) => true
  | 2, some (.array _) => true
  | 3, some .boolean => true
  | 4, some .byte => true
  | 5, some .char => true
  | _, _ => false
def mfOK (y : MethodName) (n : Nat) (ret : Option FieldType) (q : Nat × List Nat × Nat) : Bool :=
  decide (n ≤ 40) && decide (y.cls ≠ "java/lang/invoke/MethodHandle") && decide (y.cls ≠ "java/lang/invoke/VarHandle") && retOK q.2.2 ret && (match parseMethodDescriptor y.desc with
    | some sig => decide (q.2.1.length = sig.parameters.length + (if q.1 = 0 then 0 else 1))
    | none => false) && (decide (q.1 = 0) || decide (q.2.1.head? = some 2)) && decide (q.1 < 3) && (decide (q.1 ≠ 2) || (decide (y.name = "<init>") && decide (ret = none) && decide (q.2.2 = 9))) && q.2.1.all (fun t => decide (t < 3)) && decide ((q.2.1.map cat).sum ≤ n)
set_option maxRecDepth 100000 in
theorem mf_0 : ((mL.zip mkL).drop 0 |>.take 40).all (fun e => mfOK e.1.1 e.1.2.2.1 e.1.2.2.2 e.2) = true := by decide +kernel
set_option maxRecDepth 100000 in
theorem mf_40 : ((mL.zip mkL).drop 40 |>.take 40).all (fun e => mfOK e.1.1 e.1.2.2.1 e.1.2.2.2 e.2) = true := by decide +kernel
set_option maxRecDepth 100000 in
theorem mf_80 : ((mL.zip mkL).drop 80 |>.take 40).all (fun e => mfOK e.1.1 e.1.2.2.1 e.1.2.2.2 e.2) = true := by decide +kernel
set_option maxRecDepth 100000 in
theorem mf_120 : ((mL.zip mkL).drop 120 |>.take 40).all (fun e => mfOK e.1.1 e.1.2.2.1 e.1.2.2.2 e.2) = true := by decide +kernel
set_option maxRecDepth 100000 in
theorem mf_160 : ((mL.zip mkL).drop 160 |>.take 40).all (fun e => mfOK e.1.1 e.1.2.2.1 e.1.2.2.2 e.2) = true := by decide +kernel
set_option maxRecDepth 100000 in
theorem mf_200 : ((mL.zip mkL).drop 200 |>.take 40).all (fun e => mfOK e.1.1 e.1.2.2.1 e.1.2.2.2 e.2) = true := by decide +kernel
set_option maxRecDepth 100000 in
theorem mf_240 : ((mL.zip mkL).drop 240 |>.take 40).all (fun e => mfOK e.1.1 e.1.2.2.1 e.1.2.2.2 e.2) = true := by decide +kernel
set_option maxRecDepth 100000 in
theorem mf_280 : ((mL.zip mkL).drop 280 |>.take 40).all (fun e => mfOK e.1.1 e.1.2.2.1 e.1.2.2.2 e.2) = true := by decide +kernel
set_option maxRecDepth 100000 in
theorem mf_320 : ((mL.zip mkL).drop 320 |>.take 40).all (fun e => mfOK e.1.1 e.1.2.2.1 e.1.2.2.2 e.2) = true := by decide +kernel
theorem mg_320 : ((mL.zip mkL).drop 320).all (fun e => mfOK e.1.1 e.1.2.2.1 e.1.2.2.2 e.2) = true := all_cut _ _ 40 mf_320 (by decide +kernel)
theorem mg_280 : ((mL.zip mkL).drop 280).all (fun e => mfOK e.1.1 e.1.2.2.1 e.1.2.2.2 e.2) = true := all_cut _ _ 40 mf_280 (by rw [List.drop_drop]; exact mg_320)
theorem mg_240 : ((mL.zip mkL).drop 240).all (fun e => mfOK e.1.1 e.1.2.2.1 e.1.2.2.2 e.2) = true := all_cut _ _ 40 mf_240 (by rw [List.drop_drop]; exact mg_280)
theorem mg_200 : ((mL.zip mkL).drop 200).all (fun e => mfOK e.1.1 e.1.2.2.1 e.1.2.2.2 e.2) = true := all_cut _ _ 40 mf_200 (by rw [List.drop_drop]; exact mg_240)
theorem mg_160 : ((mL.zip mkL).drop 160).all (fun e => mfOK e.1.1 e.1.2.2.1 e.1.2.2.2 e.2) = true := all_cut _ _ 40 mf_160 (by rw [List.drop_drop]; exact mg_200)
theorem mg_120 : ((mL.zip mkL).drop 120).all (fun e => mfOK e.1.1 e.1.2.2.1 e.1.2.2.2 e.2) = true := all_cut _ _ 40 mf_120 (by rw [List.drop_drop]; exact mg_160)
theorem mg_80 : ((mL.zip mkL).drop 80).all (fun e => mfOK e.1.1 e.1.2.2.1 e.1.2.2.2 e.2) = true := all_cut _ _ 40 mf_80 (by rw [List.drop_drop]; exact mg_120)
theorem mg_40 : ((mL.zip mkL).drop 40).all (fun e => mfOK e.1.1 e.1.2.2.1 e.1.2.2.2 e.2) = true := all_cut _ _ 40 mf_40 (by rw [List.drop_drop]; exact mg_80)
theorem mg_0 : ((mL.zip mkL).drop 0).all (fun e => mfOK e.1.1 e.1.2.2.1 e.1.2.2.2 e.2) = true := all_cut _ _ 40 mf_0 (by rw [List.drop_drop]; exact mg_40)
theorem mL_len : mL.length = mkL.length := by decide +kernel
theorem m_at {mi : Nat} (h : mi < mL.length) : ∃ y b n ret kind ts rt, mL[mi]? = some (y, b, n, ret) ∧ yL[mi]? = some y ∧ bL[mi]? = some (b, n, ret) ∧ pmk mi = some (kind, ts, rt) ∧ mfOK y n ret (kind, ts, rt) = true := by
  obtain ⟨⟨y, b, n, ret⟩, e1⟩ : ∃ z, mL[mi]? = some z := ⟨_, List.getElem?_eq_getElem h⟩
  obtain ⟨⟨kind, ts, rt⟩, e2⟩ : ∃ z, mkL[mi]? = some z := ⟨_, List.getElem?_eq_getElem (by rw [← mL_len]; exact h)⟩
  refine ⟨y, b, n, ret, kind, ts, rt, e1, by simp [yL, e1], by simp [bL, e1], e2, ?_⟩
  have h0 : (mL.zip mkL).all (fun e => mfOK e.1.1 e.1.2.2.1 e.1.2.2.2 e.2) = true := mg_0
  have h1 : ((y, b, n, ret), (kind, ts, rt)) ∈ mL.zip mkL := List.mem_of_getElem? (i := mi) (by rw [List.getElem?_zip_eq_some]; exact ⟨e1, e2⟩)
  exact List.all_eq_true.mp h0 _ h1
theorem arr_in : ∀ w ∈ ([.arrayClass .int, .arrayClass .long, .arrayClass .byte, .arrayClass .boolean] : List Cond), w ∈ gw := posOK_in (ps := [(1, 130), (1, 131), (1, 129), (6, 236)]) (by decide +kernel)
theorem yL_len : yL.length = mL.length := by simp [yL]
set_option maxRecDepth 100000 in
theorem nt_ok : ntL.all (fun z => decide (z.1 = "GatedPile") && (match ppl 10 z.2.1 with
  | some (6, v) => decide (yL[v.toNat]? = some z.2.2.1)
  | _ => false)) = true := by decide +kernel
theorem cnm10 (own : Nat) (h : cnm[own]? = some "GatedPile") : own = 10 := by
  have hl : own < cnm.length := (List.getElem?_eq_some_iff.mp h).1
  have key : ∀ o, o < cnm.length → cnm[o]? = some "GatedPile" → o = 10 := by decide +kernel
  exact key own hl h
section Pools
variable {args : Array Value} {s : State} {G : xG} {st : xStt} {own : Nat} {nm : String}
theorem poolI_of (hn : cnm[own]? = some nm) (hts : ∀ w ∈ gw, w.before args s = true) : PoolI nm own ppl args s := fun k i h => by
  obtain ⟨h1, h2⟩ := pool_w own nm hn k 0 i h
  exact ⟨Int32.ofInt i, by simpa [pe] using h2, hts _ (h1 _ (by simp [pw]))⟩
theorem poolJ_of (hn : cnm[own]? = some nm) (hts : ∀ w ∈ gw, w.before args s = true) : PoolJ nm own ppl args s := fun k i h => by
  obtain ⟨h1, h2⟩ := pool_w own nm hn k 1 i h
  exact ⟨Int64.ofInt i, by simpa [pe] using h2, hts _ (h1 _ (by simp [pw]))⟩
theorem poolF_of (hn : cnm[own]? = some nm) (hts : ∀ w ∈ gw, w.before args s = true) : PoolF nm own ppl args s := fun k i h => by
  obtain ⟨h1, h2⟩ := pool_w own nm hn k 3 i h
  simp only [pe, Bool.and_eq_true, decide_eq_true_eq] at h2
  obtain ⟨h2, h3⟩ := h2
  split at h3
  · rename_i q hq
    refine ⟨q, hq, by simpa using h3, hts _ (h1 _ ?_)⟩
    simp only [pw, hq]
    exact List.mem_cons_self
  · cases h3
theorem poolC_of (hn : cnm[own]? = some nm) (hts : ∀ w ∈ gw, w.before args s = true) : PoolC nm own ppl args s := fun k i h => by
  obtain ⟨h1, h2⟩ := pool_w own nm hn k 7 i h
  simp only [pe, Bool.and_eq_true, decide_eq_true_eq] at h2
  obtain ⟨q, hq⟩ := Option.isSome_iff_exists.mp h2.2
  simp only [pw, hq] at h1
  exact ⟨q, hq, hts _ (h1 _ (by simp)), hts _ (h1 _ (by simp)), hts _ (h1 _ (by simp))⟩
theorem poolA_of (hts : ∀ w ∈ gw, w.before args s = true) : PoolA args s := fun kd h => by
  have h4 : kd = 0 ∨ kd = 1 ∨ kd = 2 ∨ kd = 3 := by omega
  rcases h4 with rfl | rfl | rfl | rfl
  · exact hts _ (arr_in _ (by simp [aft]))
  · exact hts _ (arr_in _ (by simp [aft]))
  · exact hts _ (arr_in _ (by simp [aft]))
  · exact hts _ (arr_in _ (by simp [aft]))
theorem poolO_of (hn : cnm[own]? = some nm) (hts : ∀ w ∈ gw, w.before args s = true) : PoolO nm own ppl args s := fun k i h => by
  obtain ⟨h1, -⟩ := pool_w own nm hn k 8 i h
  exact ⟨hts _ (h1 _ (by simp [pw])), hts _ (h1 _ (by simp [pw])), hts _ (h1 _ (by simp [pw]))⟩
theorem poolY_of (hn : cnm[own]? = some nm) (hts : ∀ w ∈ gw, w.before args s = true) : PoolY nm own ppl args s := fun k i h => by
  obtain ⟨h1, -⟩ := pool_w own nm hn k 9 i h
  exact ⟨hts _ (h1 _ (by simp [pw])), hts _ (h1 _ (by simp [pw])), hts _ (h1 _ (by simp [pw])), hts _ (h1 _ (by simp [pw]))⟩
theorem poolS_of (hn : cnm[own]? = some nm) (hts : ∀ w ∈ gw, w.before args s = true) (hz : StZ G s) : PoolS G nm own ppl args s := fun k t i h ht => by
  obtain ⟨h1, h2⟩ := pool_w own nm hn k t i h
  rcases ht with rfl | rfl
  · simp only [pe] at h2
    obtain ⟨z, hf⟩ := Option.isSome_iff_exists.mp h2
    have hm := List.mem_of_find?_eq_some hf
    have hp := List.find?_some hf
    simp only [Bool.and_eq_true, beq_iff_eq] at hp
    obtain ⟨v, a, b⟩ := hz z hm
    simp only [pw, hf] at h1
    rw [hp.1, hp.2] at b
    exact ⟨z.1, z.2.1, z.2.2.1, z.1, v, a, hts _ (h1 _ List.mem_cons_self), fun _ q => q, b⟩
  · simp only [pe] at h2
    obtain ⟨z, hf⟩ := Option.isSome_iff_exists.mp h2
    have hm := List.mem_of_find?_eq_some hf
    have hp := List.find?_some hf
    simp only [Bool.and_eq_true, beq_iff_eq] at hp
    obtain ⟨v, a, b⟩ := hz z hm
    simp only [pw, hf] at h1
    rw [hp.1, hp.2] at b
    exact ⟨z.1, z.2.1, z.2.2.1, z.1, v, a, hts _ (h1 _ List.mem_cons_self), fun _ q => q, b⟩
theorem mf_ts {y : MethodName} {n : Nat} {ret : Option FieldType} {kind rt : Nat} {ts : List Nat} (h : mfOK y n ret (kind, ts, rt) = true) : n ≤ 40 ∧ (y.cls ≠ "java/lang/invoke/MethodHandle" ∧ y.cls ≠ "java/lang/invoke/VarHandle") ∧ retOK rt ret = true ∧ (∀ sig, parseMethodDescriptor y.desc = some sig → ts.length = sig.parameters.length + (if kind = 0 then 0 else 1)) ∧ (kind = 0 ∨ ∃ ts', ts = 2 :: ts') ∧ kind < 3 ∧ (kind = 2 → y.name = "<init>" ∧ ret = none ∧ rt = 9) ∧ (∀ t ∈ ts, t < 3) ∧ (ts.map cat).sum ≤ n := by
  simp only [mfOK, Bool.and_eq_true, decide_eq_true_eq, Bool.or_eq_true, List.all_eq_true] at h
  obtain ⟨⟨⟨⟨⟨⟨⟨⟨⟨h1, h2⟩, h3⟩, h4⟩, h5⟩, h6⟩, h7⟩, h8⟩, h9⟩, h10⟩ := h
  refine ⟨h1, ⟨h2, h3⟩, h4, fun sig hs => ?_, ?_, h7, fun hk => ?_, h9, h10⟩
  · rw [hs] at h5
    simpa using h5
  · rcases h6 with z | z
    · exact Or.inl z
    · right
      cases ts with
      | nil => cases z
      | cons a t => cases z; exact ⟨t, rfl⟩
  · rcases h8 with z | z
    · exact absurd hk z
    · exact ⟨z.1.1, z.1.2, z.2⟩
theorem poolM_of (hn : cnm[own]? = some nm) (hts : ∀ w ∈ gw, w.before args s = true) (hN : StN s) : PoolM nm own ppl args s := fun k mi h => by
  obtain ⟨h1, h2⟩ := pool_w own nm hn k 6 mi h
  simp only [pe, Bool.and_eq_true, decide_eq_true_eq, Int.toNat_natCast] at h2
  obtain ⟨y, b, n, ret, kind, ts, rt, e1, e2, e3, e4, hf⟩ := m_at (mi := mi) (by rw [← yL_len]; exact h2.1.2)
  obtain ⟨f1, f2, f3, f4, f5, f6, f7, f8, f9⟩ := mf_ts hf
  have hk3 : kind = 0 ∨ kind = 1 ∨ kind = 2 := by omega
  have hcode : Jvm.Cond.code y b n ret ∈ gw := by
    rcases cw_all _ (List.mem_of_getElem? e1) with z | z
    · exfalso
      apply h2.2
      rw [e2]
      exact congrArg some z
    · exact z
  rcases hk3 with rfl | rfl | rfl
  · simp only [pw, Int.toNat_natCast, e2, e3, e4] at h1
    exact ⟨y, b, n, ret, 0, ts, rt, e2, e3, e4, hcode, hts _ (h1 _ (by simp)), f2, f1, Or.inl ⟨rfl, hts _ (h1 _ (by simp)), hts _ (h1 _ (by simp)), fun sig hs => by simpa using f4 sig hs⟩⟩
  · simp only [pw, Int.toNat_natCast, e2, e3, e4] at h1
    exact ⟨y, b, n, ret, 1, ts, rt, e2, e3, e4, hcode, hts _ (h1 _ (by simp)), f2, f1, Or.inr (Or.inl ⟨rfl, hts _ (h1 _ (by simp)), hts _ (h1 _ (by simp)), hts _ (h1 _ (by simp)), f5.resolve_left (by decide), fun sig hs => by simpa using f4 sig hs⟩)⟩
  · obtain ⟨g1, g2, g3⟩ := f7 rfl
    simp only [pw, Int.toNat_natCast, e2, e3, e4] at h1
    refine ⟨y, b, n, ret, 2, ts, rt, e2, e3, e4, hcode, ?_, f2, f1, Or.inr (Or.inr ⟨rfl, g1, g2, g3, ?_, ?_, f5.resolve_left (by decide), fun sig hs => by simpa using f4 sig hs⟩)⟩
    · split at h1 <;> exact hts _ (h1 _ (by simp))
    · split at h1 <;> exact hts _ (h1 _ (by simp))
    · split at h1
      · rename_i hnt
        rw [List.any_eq_true] at hnt
        obtain ⟨z, hz, hz2⟩ := hnt
        simp only [Bool.and_eq_true, beq_iff_eq] at hz2
        right
        refine ⟨z.2.2.2, va_Nw.use rfl ?_⟩
        have := hN z hz
        rw [hz2.1, hz2.2] at this
        have hy : z.2.2.1 = y := by
          have hz3 := List.all_eq_true.mp nt_ok z hz
          simp only [Bool.and_eq_true, decide_eq_true_eq] at hz3
          have h10 : own = 10 := cnm10 own (by rw [hn, ← hz2.1, hz3.1])
          subst h10
          have hz4 := hz3.2
          rw [hz2.2, h] at hz4
          simp only [Int.toNat_natCast, decide_eq_true_eq] at hz4
          rw [e2] at hz4
          exact (Option.some.inj hz4).symm
        rw [hy] at this
        exact this
      · left
        exact hts _ (h1 _ (by simp))
end Pools
