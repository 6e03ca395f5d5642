/-! THE TEXT AS THE CLASS HAS GATHERED IT -/
section Txt
variable {mc mr j' m' m5 : Mem} {e : Int} {cd : Nat} {t : xT} {V' : Nat → Int}
theorem VC_gv {v : Int → Int} (fr : Fr (kd mc) (fun k => mc 55 k) V' 0 e) (hV : VC mc v e) : VC (gv e V' mc) v e := fun i h0 h1 => by
  have idV : kd mc i ≠ 123 → idT (gv e V' mc) i = idT mc i := fun hk => by
    show (if i < 0 ∨ mc 51 5 ≤ i then 0 else V' i.toNat) = (if i < 0 ∨ mc 51 5 ≤ i then 0 else mc 55 i.toNat)
    rw [fr.2 i.toNat (by rw [Int.toNat_of_nonneg h0]; exact hk)]
  obtain ⟨v1, v2⟩ := hV i h0 h1
  refine ⟨fun hk => ?_, fun hk => ?_⟩
  · have hk' : kd mc i = 2 := hk
    rw [idV (by omega)]
    exact v1 hk'
  · have hk' : kd mc i = 3 := hk
    rw [idV (by omega)]
    exact v2 hk'
/-- the class's arrays of vars and raises -/
def CV (m : Mem) (ws : List Int) (rl : List (List Int)) : Prop := (m 57 5 = (ws.length : Int) ∧ (∀ k, k < ws.length → m 63 k = ws.getD k 0 ∧ (0 ≤ m 63 k ∧ m 63 k ≤ 32767) ∧ m 62 k = usm m k) ∧ m 57 8 = usm m ws.length) ∧ (m 57 7 = (rl.length : Int) ∧ m 57 7 ≤ 260) ∧ (m 57 14 = (rl.flatten.length : Int) ∧ m 57 14 ≤ 1300) ∧ (∀ k, k ≤ rl.length → m 66 k = ((rl.take k).flatten.length : Int)) ∧ (∀ k, k < rl.flatten.length → m 65 k = idT m (rl.flatten.getD k 0))
theorem A1 (J : Ju mc mr e) (h8 : mc 57 8 = 0) (hm5 : m5 = gE t (gv e V' mc)) (hP : PT (kd mc) (VF V') t 0 e) (fr : Fr (kd mc) (fun k => mc 55 k) V' 0 e) (K5 : Kt (gv e V' mc) (gT t (gv e V' mc))) (G5 : GJ (gT t (gv e V' mc)) e) (T5 : TCs m5 (sT (fun i => mr 163 i.toNat) t s6)) : XC0 m5 e ∧ CV m5 (vwT (fun i => mr 163 i.toNat) t) (rT t) ∧ LV (sT (fun i => mr 163 i.toNat) t s6) (vwT (fun i => mr 163 i.toNat) t) ∧ kd m5 = kd mc ∧ VC m5 (fun i => mr 163 i.toNat) e ∧ (∀ k, m5 54 k = mc 54 k) ∧ m5 57 4 = mc 57 4 ∧ m5 51 5 = mc 51 5 := by
  obtain ⟨T, hV, hI, hC, hG, h15, h61, hms, hpl, he, h687, h688, f14, f15, f16, f41, hS, hB⟩ := J
  generalize hv : (fun i : Int => mr 163 i.toNat) = v at *
  have hnum : ∀ i, 0 ≤ i → i < e → kd mc i = 3 → 0 ≤ v i ∧ v i ≤ 32767 := fun i h0 h1 hk => by
    have tr := (T.2.2.2.2.2 i h0 (by omega)).1
    rw [hk] at tr
    rw [← hv]
    show 0 ≤ mr 163 i.toNat ∧ mr 163 i.toNat ≤ 32767
    generalize mr 163 i.toNat = z at *
    generalize mr 161 i.toNat = w at *
    rcases tr with h | h | h | h | h | h <;> omega
  have V4 := VC_gv fr hV
  have G0 : GVI (gv e V' mc) [] [] := by
    refine ⟨⟨?_, fun k hk => absurd hk (Nat.not_lt_zero _), h8⟩, ?_, ?_, fun k hk => absurd hk (Nat.not_lt_zero _), fun k hk => absurd hk (Nat.not_lt_zero _)⟩
    · exact hC.2.1
    · exact hC.2.2.2.1
    · have g := hG.2.2.2.2.2.2
      show mc 57 14 = 0
      omega
  have G1 := GVR (m2 := mc) (v := v) (V := VF V') (e := e) (by omega) hnum (tsz t + 1) t (by omega) (gv e V' mc) 0 [] [] rfl hP (by omega) V4 (by decide) G0
  rw [List.nil_append, List.nil_append] at G1
  obtain ⟨⟨g1, g2, g3⟩, g4, g5, g6, g7⟩ := G1
  have b7 := G5.2.2.2.2.2.1
  have b14 := G5.2.2.2.2.2.2.2.1
  have o5 : ∀ a k, a ≠ 66 → m5 a k = gT t (gv e V' mc) a k := fun a k ha => by
    rw [hm5]
    unfold gE
    rw [put_ss, if_neg ha]
  have o66 : ∀ k, m5 66 k = if k = (rT t).length then gT t (gv e V' mc) 57 14 else gT t (gv e V' mc) 66 k := fun k => by
    rw [hm5]
    unfold gE
    have ei : (imin (gT t (gv e V' mc) 57 7) 300).toNat = (rT t).length := by
      unfold imin
      rw [if_pos (by omega), g4]
      exact Int.toNat_natCast _
    rw [put_ss, if_pos rfl, ei]
  have K5m : Kt (gv e V' mc) m5 := ⟨fun a k ha => by rw [o5 a k (by omega)]; exact K5.1 a k ha, by rw [o5 57 4 (by decide)]; exact K5.2⟩
  have hu : ∀ k, usm m5 k = usm (gT t (gv e V' mc)) k := fun k => usm_c k (fun j _ => o5 63 j (by decide))
  have hid : idT m5 = idT (gT t (gv e V' mc)) := by
    funext i
    unfold idT
    rw [o5 51 5 (by decide), o5 55 _ (by decide)]
  have hcv : CV m5 (vwT v t) (rT t) := by
    refine ⟨⟨by rw [o5 57 5 (by decide)]; exact g1, fun k hk => by rw [o5 63 k (by decide), o5 62 k (by decide), hu]; exact g2 k hk, by rw [o5 57 8 (by decide), hu]; exact g3⟩, ⟨by rw [o5 57 7 (by decide)]; exact g4, by rw [o5 57 7 (by decide)]; omega⟩, ⟨by rw [o5 57 14 (by decide)]; exact g5, by rw [o5 57 14 (by decide)]; omega⟩, fun k hk => ?_, fun k hk => by rw [o5 65 k (by decide), hid]; exact g7 k hk⟩
    rw [o66]
    by_cases c : k = (rT t).length
    · rw [if_pos c, c, List.take_length]
      exact g5
    · rw [if_neg c]
      exact g6 k (by omega)
  have hkd : kd m5 = kd mc := by
    have z := Kt_kd K5m
    rw [z]
    rfl
  have V5 : VC m5 v e := VC_Kt K5m V4
  have L5 := LV_T (v := v) (V := VF V') (K := kd mc) (e := e) (tsz t + 1) t (by omega) 0 s6 [] hP LV_6
  rw [List.nil_append] at L5
  have N5 := NI_T (v := v) (tsz t + 1) t (by omega) 0 s6 hP NI_6
  have h54 : ∀ k, m5 54 k = mc 54 k := fun k => K5m.1 54 k (by omega)
  have h51 : m5 51 5 = mc 51 5 := K5m.1 51 5 (by omega)
  refine ⟨XC0_mk (v := v) T5 N5 L5 (fun k hk => (hcv.1.2.1 k hk).1) V5 (fun i h0 h1 hk => hnum i h0 h1 (by rw [hkd] at hk; exact hk)) (by rw [h51]; exact T.2.1) (fun i h0 h1 => by rw [h54]; have := hpl i h0 h1; omega), hcv, L5, hkd, V5, h54, K5m.2, h51⟩
end Txt
