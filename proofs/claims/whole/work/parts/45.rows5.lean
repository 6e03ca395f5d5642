/-! ROWS of the heap -/
def fty (t : FieldType) : Nat := match t with
  | .int => 0
  | .long => 1
  | .boolean => 3
  | .byte => 4
  | .object _ => 2
  | .array _ => 2
  | _ => 7
set_option maxRecDepth 100000 in
theorem pCl_ok : ∀ (c : Nat) (q : vw_C), pCl[c]? = some q → (∀ w ∈ u_ws q.1 q.2.1 q.2.2, w ∈ gw) ∧ (∀ k, k < q.2.2 → parseFieldDescriptor (q.2.1 k).2.2.1 = some (tyC c k)) ∧ (∀ a, a < q.2.2 → ∀ b, b < q.2.2 → a ≠ b → (q.2.1 a).2.1 ≠ (q.2.1 b).2.1) ∧ (∀ k, k < q.2.2 → fty (tyC c k) = pft c k) ∧ (∀ k, k < q.2.2 → (q.2.1 k).2.2.2 = pfn c k) ∧ ∀ k, k < q.2.2 → (q.2.1 k).1 = q.1 := by
  intro c q h
  match c, h with
  | 0, h => cases h; exact ⟨inC0, tyC0_ok, nmC0, by decide +kernel, by decide +kernel, by decide +kernel⟩
  | 1, h => cases h; exact ⟨inC1, tyC1_ok, nmC1, by decide +kernel, by decide +kernel, by decide +kernel⟩
  | 2, h => cases h; exact ⟨inC2, tyC2_ok, nmC2, by decide +kernel, by decide +kernel, by decide +kernel⟩
  | 3, h => cases h; exact ⟨inC3, tyC3_ok, nmC3, by decide +kernel, by decide +kernel, by decide +kernel⟩
  | 4, h => cases h; exact ⟨inC4, tyC4_ok, nmC4, by decide +kernel, by decide +kernel, by decide +kernel⟩
  | 5, h => cases h; exact ⟨inC5, tyC5_ok, nmC5, by decide +kernel, by decide +kernel, by decide +kernel⟩
  | 6, h => cases h; exact ⟨inC6, tyC6_ok, nmC6, by decide +kernel, by decide +kernel, by decide +kernel⟩
  | 7, h => cases h; exact ⟨inC7, tyC7_ok, nmC7, by decide +kernel, by decide +kernel, by decide +kernel⟩
  | 8, h => cases h; exact ⟨inC8, tyC8_ok, nmC8, by decide +kernel, by decide +kernel, by decide +kernel⟩
  | 9, h => cases h; exact ⟨inC9, tyC9_ok, nmC9, by decide +kernel, by decide +kernel, by decide +kernel⟩
  | 10, h => cases h; exact ⟨inC10, tyC10_ok, nmC10, by decide +kernel, by decide +kernel, by decide +kernel⟩
  | 11, h => cases h; exact ⟨inC11, tyC11_ok, nmC11, by decide +kernel, by decide +kernel, by decide +kernel⟩
  | c + 12, h => simp [pCl] at h
theorem pft_le (a b : Nat) : pft a b ≤ 4 := by
  have h : ∀ l ∈ ftL, ∀ n ∈ l, n ≤ 4 := by decide +kernel
  unfold pft
  by_cases ha : a < ftL.length
  · by_cases hb : b < (ftL.getD a []).length
    · have h1 : ftL.getD a [] ∈ ftL := by
        rw [List.getD_eq_getElem?_getD, List.getElem?_eq_getElem ha]
        exact List.getElem_mem ha
      rw [List.getD_eq_getElem?_getD, List.getElem?_eq_getElem hb]
      exact h _ h1 _ (List.getElem_mem hb)
    · rw [List.getD_eq_getElem?_getD, List.getElem?_eq_none (by omega)]
      exact Nat.zero_le _
  · rw [List.getD_eq_getElem?_getD (l := ftL), List.getElem?_eq_none (by omega)]
    exact Nat.zero_le _
abbrev tys4 (G : xG) : List (ClassId × FieldType) := [(G.2.1 0, .int), (G.2.1 1, .long), (G.2.1 2, .byte), (G.2.1 3, .boolean)]
def PoolF (nm : String) (own : Nat) (pl : xPl) (args : Array Value) (s : State) : Prop := ∀ k i, pl own k = some (3, i) → ∃ q : vw_C, pCl[i.toNat / 1000]? = some q ∧ i.toNat % 1000 < q.2.2 ∧ (Jvm.Cond.fieldLink nm k q.1 (q.2.1 (i.toNat % 1000)).2.1 (q.2.1 (i.toNat % 1000)).2.2.1).before args s = true
def StO (G : xG) (st : xStt) (s : State) : Prop := ∀ i, i < pS → st.1 i = 10 → va_O "java/lang/String" (G.2.2.1 i) (Own G) s s.heap ∧ ∀ k, k < 2 → ∃ v, va_OF "java/lang/String" (TC0 k).2.1 (TC0 k).2.2.1 v (G.2.2.1 i) (Own G) s s.heap ∧ rel (ro G) (rty (pft 0 k)) (st.2.2 i k) v
def StA (G : xG) (st : xStt) (s : State) : Prop := ∀ i, i < pS → st.1 i < 4 → (st.1 i = 0 ∨ st.1 i = 2) ∧ st.2.1 i ≤ 100000 ∧ ∃ F : Nat → Value, va_T (aft (st.1 i)) (G.2.2.1 i) (st.2.1 i) F (Own G) s s.heap ∧ ∀ j, j < st.2.1 i → rel (ro G) 0 (st.2.2 i j) (F j)
def StK (st : xStt) : Prop := ∀ i, i < pS → st.1 i < 4 ∨ st.1 i = 10
theorem vaS_of {G : xG} {st : xStt} {H0 H : Heap} {h hE : xH} {s : State} {locs : List Loc} (hR : HR G st H0 h H) (hs : HR G st H0 hE s.heap) (hh : hx hE h) (hl : ∀ q ∈ locs, Own G q.base) : va_S (Own G) s.heap H locs := by
  refine ⟨?_, fun q h1 h2 => ?_, hl⟩
  · rw [hs.2.1, hR.2.1]
    have := hh.1
    omega
  · have hq : q < G.2.2.2 := Nat.not_le.mp h2
    rw [hR.2.2.1 q hq, hs.2.2.1 q hq]
theorem xob_e {h : xH} {c p : Nat} {a : Int} (h1 : xob h c a = some p) : a = (p : Int) ∧ p < h.1 ∧ h.2.1 p = 10 + c := by
  unfold xob at h1
  split at h1
  · rename_i hc
    cases h1
    omega
  · cases h1
theorem xat_e {h : xH} {kd p q : Nat} {a i : Int} (h1 : xat h kd a i = some (p, q)) : a = (p : Int) ∧ p < h.1 ∧ h.2.1 p = kd ∧ i = (q : Int) ∧ q < h.2.2.1 p := by
  unfold xat at h1
  split at h1
  · rename_i hc
    cases h1
    omega
  · cases h1
theorem rel2_nat {r : Nat → Nat} {k : Nat} {v : Value} (h : rel r 2 (k : Int) v) : v = .ref (r k) := by
  rcases h with ⟨h, -⟩ | ⟨h, -⟩ | ⟨j, h, hv⟩
  · omega
  · omega
  · have : k = j := by omega
    subst this
    exact hv
section Rows5
variable {p : Program} {l : Launch} {e : Env} {R : Room} {s : State} {m : MethodId} {args : Array Value} {below : List Frame} {meth : Method} {c : Code} {Q : State → Prop}
variable {G : xG} {st : xStt} {H0 : Heap} {hE : xH} {cd : xC} {cc : ByteArray} {pl : xPl} {own pc pc' : Nat} {nm : String} {x : xS} {sa : xL}
theorem ckF_e {put : Bool} {i : Nat} (h : ckF cd pl own pc put i = some pc') : pc' = pc + 3 ∧ ∃ k, cd pc = some (if put then .putfield k else .getfield k, 3) ∧ pl own k = some (3, (i : Int)) := by
  unfold ckF at h
  split at h
  · rename_i k heq
    split at h
    · rename_i hv
      obtain ⟨rfl, hv⟩ := hv
      cases h
      exact ⟨rfl, k, heq, hv⟩
    · cases h
  · rename_i k heq
    split at h
    · rename_i hv
      obtain ⟨rfl, hv⟩ := hv
      cases h
      exact ⟨rfl, k, heq, hv⟩
    · cases h
  · cases h
theorem at_Get (hp0 : p.tables.exec = Jvm.exec) (hb : c.code = cc) (hcd : CdOK cd cc) (hown : s.vm.findClass nm = some m.cls) (hts : ∀ w ∈ gw, w.before args s = true) (hK : va_K G.1 pCl (tys4 G) s) (hpf : PoolF nm own pl args s) (hso : StO G st s) (hsk : StK st) (hsE : HR G st H0 hE s.heap) (hhx : hx hE x.2)
    {i : Nat} {a : Int} {o : Nat} (ho : xob x.2 (i / 1000) a = some o) (hi0 : i / 1000 = 0 → i % 1000 < 2) (h : ckF cd pl own pc false i = some pc') (hk : At p l e R s m args below meth c Q G st H0 hE cd pc' x ((rty (pft (i / 1000) (i % 1000)), x.2.2.2.2 o (i % 1000)) :: sa)) : At p l e R s m args below meth c Q G st H0 hE cd pc x ((2, a) :: sa) := by
  obtain ⟨rfl, k, hc, hp⟩ := ckF_e h
  obtain ⟨q, hq, hlt, hlk⟩ := hpf k _ hp
  simp only [Int.toNat_natCast] at hq hlt hlk
  obtain ⟨rfl, ho1, ho2⟩ := xob_e ho
  obtain ⟨hin, hty, hnm, hft, hfn, hdec⟩ := pCl_ok _ _ hq
  refine At.row hp0 hb hcd hc (fun _ => by intro q; cases q) hk fun H ls locs vs g1 g2 g3 g4 kk => ?_
  obtain ⟨v1, w1, rfl, r1, g5⟩ := SR_cons g4
  have e1 := rel2_nat r1
  subst e1
  by_cases hos : o < pS
  · -- what is not one's own
    obtain ⟨s1, s2, s3⟩ := g1.2.2.2.2 o hos
    rw [ho2] at s1
    have hc0 : i / 1000 = 0 := by
      rcases hsk o hos with z | z <;> omega
    obtain ⟨v, hv, hr⟩ := (hso o hos (by omega)).2 (i % 1000) (hi0 hc0)
    rw [hc0] at hq
    cases hq
    rw [ro_stat hos]
    refine vk_getf hp0 hb hv (vaS_of g1 hsE hhx g3) hown hlk (fun _ z => z) (hcd _ _ _ hc) (kk H ls locs (v :: w1) g1 g2 g3 ⟨?_, g5⟩)
    show rel (ro G) (rty (pft (i / 1000) (i % 1000))) (x.2.2.2.2 o (i % 1000)) v
    rw [hc0, s3]
    exact hr
  · have hcell := g1.2.2.2.1 o (by omega) ho1
    rcases hcell with ⟨z, -⟩ | ⟨c', q', z1, z2, V, hO, hV⟩
    · omega
    · have hcc : c' = i / 1000 := by omega
      subst hcc
      cases hq.symm.trans z2
      have hP : va_P G.1 pCl [(ro G o, .inr (i / 1000, (List.range q.2.2).map V))] H := by
        intro k0 q0 hk0
        have : k0 = 0 := by
          have := (List.getElem?_eq_some_iff.mp hk0).1
          simp at this
          exact this
        subst this
        cases hk0
        refine ⟨q, hq, hO.to fun k1 hk1 => ?_⟩
        simp [vp_V, hk1]
      refine va_get (D := G.1) (ci := i / 1000) (v := V (i % 1000)) (C := q.1) (T := q.2.1) (N := q.2.2) hp0 hb hts hin hown hK hP 0 rfl hq (i % 1000) hlt hlk (fun y z => by rw [hdec _ hlt] at z; exact z) (by simp [hlt]) (hcd _ _ _ hc) (kk H ls locs _ g1 g2 g3 ⟨hV _ hlt, g5⟩)
theorem fit_ok {ty : FieldType} {r : Nat → Nat} {t : Nat} {n : Int} {v : Value} (h0 : t ≤ 4) (h1 : fty ty = t) (h2 : rel r (rty t) n v) (h3 : xfit t n = true) : narrow ty v = v ∧ fits ty v = true := by
  subst h1
  cases ty with
  | int => obtain ⟨y, rfl, -⟩ := h2; exact ⟨rfl, rfl⟩
  | long => obtain ⟨y, rfl, -⟩ := h2; exact ⟨rfl, rfl⟩
  | boolean =>
    obtain ⟨y, rfl, e1⟩ := h2
    have h4 : n = 0 ∨ n = 1 := by simpa [xfit, fty] using h3
    have h5 : y = 0 ∨ y = 1 := by
      rcases h4 with z | z
      · left; exact Int32.toInt_inj.mp (by rw [← e1, z]; rfl)
      · right; exact Int32.toInt_inj.mp (by rw [← e1, z]; rfl)
    rcases h5 with rfl | rfl <;> decide
  | byte =>
    obtain ⟨y, rfl, e1⟩ := h2
    have h4 : -128 ≤ n ∧ n ≤ 127 := by simpa [xfit, fty] using h3
    have h5 : y.toInt8.toInt32 = y := Int32.toInt_inj.mp (by
      rw [Int8.toInt_toInt32, Int32.toInt_toInt8, ← e1]
      exact Int.bmod_eq_of_le (by omega) (by omega))
    have h6 := pk_nb y
    have h7 := pk_fb y
    rw [h5] at h6 h7
    exact ⟨h6, h7⟩
  | object c0 => rcases rel2 h2 with rfl | ⟨a, rfl⟩ <;> exact ⟨rfl, rfl⟩
  | array t0 => rcases rel2 h2 with rfl | ⟨a, rfl⟩ <;> exact ⟨rfl, rfl⟩
  | char => exact absurd h0 (by decide)
  | double => exact absurd h0 (by decide)
  | float => exact absurd h0 (by decide)
  | short => exact absurd h0 (by decide)
/-- a field is written: the object's other fields, and all other cells, stay -/
theorem W_put (hp0 : p.tables.exec = Jvm.exec) (hb : c.code = cc) (hown : s.vm.findClass nm = some m.cls) (hts : ∀ w ∈ gw, w.before args s = true) (hK : va_K G.1 pCl (tys4 G) s) {H : Heap} {locs : List Loc} {cells slots : Nat} {ls : Array Slot} {rest : List Value} {ci k index a : Nat} {q : vw_C} {V : Nat → Value} {v : Value}
    (hq : pCl[ci]? = some q) (hlt : k < q.2.2) (hlk : (Jvm.Cond.fieldLink nm index q.1 (q.2.1 k).2.1 (q.2.1 k).2.2.1).before args s = true) (hfin : pfn ci k = true → meth.name = "<init>" ∧ q.1 = nm) (hO : t_OB a (G.1.1 ci) q.2.2 (G.1.2 ci) H V) (hfit : narrow (tyC ci k) v = v ∧ fits (tyC ci k) v = true) (hdg : decode cc pc = .ok (.putfield index, 3))
    (kk : ∀ (H1 : Heap) (j : Nat), t_OB a (G.1.1 ci) q.2.2 (G.1.2 ci) H1 (updV V k v) → H1.size = H.size → (∀ z, z ≠ a → H1[z]? = H[z]?) → W p l e R s m args below meth c H1 (locs ++ [⟨a, j⟩]) cells slots Q (F0 m (pc + 3) ls rest)) : W p l e R s m args below meth c H locs cells slots Q (F0 m pc ls (v :: .ref a :: rest)) := by
  obtain ⟨hin, hty, hnm, hft, hfn, hdec⟩ := pCl_ok _ _ hq
  have hap := va_apart (D := G.1) (own := nm) (C := q.1) (T := q.2.1) (N := q.2.2) (ci := ci) hts hin (tyC ci) hty hnm hK hq
  obtain ⟨cell, q1, q2, q3, q4⟩ := hO
  obtain ⟨hS, hfc, kC, hkC, hkind⟩ := hK.1 ci _ hq
  obtain ⟨cf, kf, fi, f, hi, hsl⟩ := hS k hlt
  have hi2 := hi
  rw [hdec _ hlt] at hi2
  have hst := (u_facts hfc hkC (u_lays hts hin hlt) hi).1
  have hlay := hts _ (hin _ (u_in_lay hlt))
  unfold u_lay at hlay
  by_cases hf : pfn ci k = true
  · obtain ⟨hin2, hnmq⟩ := hfin hf
    rw [if_pos (by rw [hfn _ hlt]; exact hf)] at hlay
    have hcf : m.cls = cf := by
      obtain ⟨_, _, c', _, _, _, -, -, hf', -, -, -, hown2, -⟩ := Cond.laysFinal_spec hlay
      have e1 : c' = cf := by have := hi.symm.trans hf'; simp at this; exact this.1.symm
      rw [hdec _ hlt, hnmq] at hown2
      rw [← e1]; exact Option.some.inj (hown.symm.trans hown2)
    have h6 := u_fits hfc hkC hkind (Or.inr hlay) hi (hty _ hlt) hfit.1 hfit.2
    refine W.putFinK hp0 hb hown hlk hi2 hst hcf hin2 (by rw [q2]; exact h6) q1 q3 (by rw [hsl]; exact k2_hasslot (q4 k hlt)) rfl rfl hdg fun H' e1 e2 e3 => ?_
    rw [hsl] at e1 ⊢
    exact kk H' _ ⟨_, e1, q2, q3, t_set q4 hap hlt v⟩ e2 e3
  · rw [if_neg (by rw [hfn _ hlt]; exact hf)] at hlay
    have h6 := u_store hfc hkC hkind hlay hi (hty _ hlt) hfit.1 hfit.2
    refine W.putK hp0 hb (f := f) ⟨hown, hlk, ⟨_, _, _, hi2⟩, hst⟩ (by rw [q2]; exact h6) q1 q3 (by rw [hsl]; exact k2_hasslot (q4 k hlt)) rfl rfl hdg fun H' e1 e2 e3 => ?_
    rw [hsl] at e1 ⊢
    exact kk H' _ ⟨_, e1, q2, q3, t_set q4 hap hlt v⟩ e2 e3
theorem at_Put (hp0 : p.tables.exec = Jvm.exec) (hb : c.code = cc) (hcd : CdOK cd cc) (hown : s.vm.findClass nm = some m.cls) (hts : ∀ w ∈ gw, w.before args s = true) (hK : va_K G.1 pCl (tys4 G) s) (hpf : PoolF nm own pl args s)
    {i : Nat} {a n : Int} {o : Nat} (ho : xob x.2 (i / 1000) a = some o) (hoS : pS ≤ o) (hf : xfit (pft (i / 1000) (i % 1000)) n = true) (hfin : pfn (i / 1000) (i % 1000) = true → meth.name = "<init>" ∧ ∀ q : vw_C, pCl[i / 1000]? = some q → q.1 = nm) (h : ckF cd pl own pc true i = some pc') (hk : At p l e R s m args below meth c Q G st H0 hE cd pc' (x.1, hput x.2 o (i % 1000) n) sa) : At p l e R s m args below meth c Q G st H0 hE cd pc x ((rty (pft (i / 1000) (i % 1000)), n) :: (2, a) :: sa) := by
  obtain ⟨rfl, k, hc, hp⟩ := ckF_e h
  obtain ⟨q, hq, hlt, hlk⟩ := hpf k _ hp
  simp only [Int.toNat_natCast] at hq hlt hlk
  obtain ⟨rfl, ho1, ho2⟩ := xob_e ho
  obtain ⟨hin, hty, hnm, hft, hfn, hdec⟩ := pCl_ok _ _ hq
  refine At.row hp0 hb hcd hc (fun _ => by intro q; cases q) hk fun H ls locs vs g1 g2 g3 g4 kk => ?_
  obtain ⟨v0, w0, rfl, r0, g4'⟩ := SR_cons g4
  obtain ⟨v1, w1, rfl, r1, g5⟩ := SR_cons g4'
  have e1 := rel2_nat r1
  subst e1
  rcases g1.2.2.2.1 o hoS ho1 with ⟨z, -⟩ | ⟨c', q', z1, z2, V, hO, hV⟩
  · omega
  · have hcc : c' = i / 1000 := by omega
    subst hcc
    cases hq.symm.trans z2
    refine W_put hp0 hb hown hts hK hq hlt hlk (fun z => ⟨(hfin z).1, (hfin z).2 q hq⟩) hO (fit_ok (pft_le _ _) (hft _ hlt) r0 hf) (hcd _ _ _ hc) fun H1 j t1 t2 t3 => ?_
    have hs : hsl (hput x.2 o (i % 1000) n) = hsl x.2 := hsl_same rfl rfl rfl
    have kk2 := kk H1 ls (locs ++ [⟨ro G o, j⟩]) w1 (HR_upd g1 hoS ho1 rfl rfl rfl (fun b hb0 j0 => by simp [hput, hb0]) t2 t3 (Or.inr ⟨i / 1000, q, ho2, hq, updV V (i % 1000) v0, t1, fun k1 hk1 => ?_⟩)) g2 (fun q0 hq0 => ?_) g5
    · have e2 : (hput x.2 o (i % 1000) n).1 = x.2.1 := rfl
      simp only [e2, hs] at kk2
      exact kk2
    · by_cases hkk : k1 = i % 1000
      · subst hkk
        simp only [hput, if_true, updV]
        exact r0
      · simp only [hput, if_true, updV, hkk, if_false]
        exact hV k1 hk1
    · rcases List.mem_append.mp hq0 with z | z
      · exact g3 q0 z
      · rw [List.mem_singleton.mp z]
        exact ro_ge hoS
end Rows5
