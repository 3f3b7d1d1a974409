/-! each telling: the same answer, and they stay side by side -/
theorem gnD.fr2 {GM GM' : gS} {h : hQ} {c : rC} (hd : gnD GM h c) (hq : ∀ q, 54 ≤ q → q ≤ 65 → GM'.1 q = GM.1 q) (hmm : mmF GM' = mmF GM) (h53 : GM'.1 100 53 = GM.1 100 53) (h66 : GM'.1 100 66 = GM.1 100 66) : gnD GM' h c := by
  obtain ⟨d1, d2, d3, d4, d5⟩ := hd
  refine ⟨by rw [h53]; exact d1, by rw [h66]; exact d2, by rw [hq 65 (by decide) (by decide)]; exact d3, fun u hu => ?_, by rw [hmm]; exact d5⟩
  rw [hq 64 (by decide) (by decide)]
  refine ⟨(d4 u hu).1, fun i hi j hj => ?_⟩
  rw [hq (54 + j) (by omega) (by omega)]
  exact (d4 u hu).2 i hi j hj
theorem ran.fr {GC GM GC' GM' : gS} {mc : Nat} {jk nk : Nat → Nat} {st : Bool} (hr : ran GC GM mc jk nk st) (h0 : GC'.1 0 4 = GC.1 0 4) (hs : stR GC' = stR GC) (hh : hC GC' jk nk mc = hC GC jk nk mc) (hq : ∀ q, 54 ≤ q → q ≤ 65 → GM'.1 q = GM.1 q) (hmm : mmF GM' = mmF GM) (h53 : GM'.1 100 53 = GM.1 100 53) (h66 : GM'.1 100 66 = GM.1 100 66) : ran GC' GM' mc jk nk st := by
  have hmf : mF GC' = mF GC := congrArg Prod.fst hs
  refine ⟨h0.trans hr.1, ?_⟩
  rcases hr.2 with ⟨q1, q2⟩ | ⟨q1, s0, q2, q3, q4, q5⟩
  · exact Or.inl ⟨q1, h53.trans q2⟩
  · exact Or.inr ⟨q1, s0, q2, by rw [hmf]; exact q3, by rw [hs, hh]; exact q4, by rw [hh]; exact q5.fr2 hq hmm h53 h66⟩
theorem ran.st {GC GM : gS} {mc : Nat} {jk nk : Nat → Nat} (h0 : GC.1 0 4 = nI 1) (h53 : GM.1 100 53 = nI 0) : ran GC GM mc jk nk true := ⟨h0, Or.inl ⟨rfl, h53⟩⟩
theorem keepOk.c {GC GC' : gS} {jk nk : Nat → Nat} (h : keepOk GC jk nk) (hc : ∀ q, 40 ≤ q → q < 100 → GC'.1 q = GC.1 q) (hr : GC'.2.2 = GC.2.2) : keepOk GC' jk nk := by
  refine ⟨h.1, fun k hk => ⟨by rw [hr]; exact (h.2 k hk).1, ?_⟩⟩
  have h1 := (h.2 k hk).2
  have := h.1 k
  unfold RW
  rw [hc (40 + jk k) (by omega) (by omega), hc (70 + jk k) (by omega) (by omega), hc (80 + jk k) (by omega) (by omega), hc (90 + jk k) (by omega) (by omega)]
  exact h1
theorem kpR.c {GC GM GC' GM' : gS} {jk nk lv : Nat → Nat} {k : Nat} (h : kpR GC GM jk nk lv k) (hj : jk k < 3) (hc : ∀ q, 40 ≤ q → q < 100 → GC'.1 q = GC.1 q) (hm : ∀ q, q = 18 ∨ (20 ≤ q ∧ q ≤ 33) → GM'.1 q = GM.1 q) (hk : k < 2) : kpR GC' GM' jk nk lv k := by
  obtain ⟨j1, j2, rs, qs, cd, j3, j4, j5, j6, j7, j8, j9, j10, j11⟩ := h
  refine ⟨by rw [hm 18 (by omega)]; exact j1, j2, rs, qs, cd, ?_, j4, j5, j6, j7, ?_, j9, j10, by rw [hm 20 (by omega)]; exact j11⟩
  · unfold RS
    rw [hc (40 + jk k) (by omega) (by omega), hc (50 + jk k) (by omega) (by omega), hc (60 + jk k) (by omega) (by omega), hc (70 + jk k) (by omega) (by omega), hc (80 + jk k) (by omega) (by omega), hc (90 + jk k) (by omega) (by omega)]
    exact j3
  · exact pgL.ext (Nat.le_refl _) (by omega) (fun j _ _ => by rw [hm 32 (by omega), hm 33 (by omega)]; exact ⟨rfl, rfl⟩) j8 (fun p pa pb j _ _ => by rw [hm p (by omega)]) (fun p pa pb j _ _ => by rw [hm p (by omega)])
theorem ap_o {x : Int32} {n j q : Nat} {G : gS} (h1 : q ≠ 1) (h2 : q ≠ 2) : (ap x n G j).1 q = G.1 q := by unfold ap; rw [sW_o _ _ _ h1, sW_o _ _ _ h2]
theorem apM_o {x : Int32} {n j q : Nat} {G : gS} (h1 : q ≠ 1) (h2 : q ≠ 100) : (apM x n G j).1 q = G.1 q := by unfold apM; rw [sW_o _ _ _ h2, sW_o _ _ _ h1]
theorem apM_sl {x : Int32} {n j q : Nat} {G : gS} (h : q ≠ 2) : (apM x n G j).1 100 q = G.1 100 q := by unfold apM; rw [sW_s, upd_o h]
def tpE (GC GM : gS) (n : Nat) : Prop := tapeOk GC n ∧ (∀ k, tB GC k < 256) ∧ GM.1 100 2 = nI n ∧ ∀ j, j < n → GM.1 1 j &&& nI 255 = nI (tB GC j)
theorem wb_lt (x : Int32) (j : Nat) : wb x j < 256 := Nat.mod_lt _ (by decide)
theorem tp_ap {GC GM : gS} {n : Nat} (h : tpE GC GM n) (hn : n + 4 ≤ 2000) (x : Int32) : tpE (ap x n GC 4) (apM x n GM 4) (n + 4) := by
  obtain ⟨⟨a1, a2, a3⟩, b, c, d⟩ := h
  have e2 : ∀ k, (ap x n GC 4).1 2 k = if n ≤ k ∧ k < n + 4 then nI (wb x (k - n)) else GC.1 2 k := fun k => by unfold ap; rw [sW_o _ _ _ (by decide), sW_s]
  have e1 : ∀ k, (apM x n GM 4).1 1 k = if n ≤ k ∧ k < n + 4 then mb x (k - n) else GM.1 1 k := fun k => by unfold apM; rw [sW_o _ _ _ (by decide), sW_s]
  have eB : ∀ k, tB (ap x n GC 4) k = if n ≤ k ∧ k < n + 4 then wb x (k - n) else tB GC k := by
    intro k
    unfold tB
    rw [e2]
    split
    · rw [cN_nI (by have := wb_lt x (k - n); omega)]
    · rfl
  refine ⟨⟨ap_len, hn, fun k hk => ?_⟩, fun k => ?_, apM_len, fun k hk => ?_⟩
  · rw [eB, e2]
    split
    · exact ⟨rfl, wb_lt _ _⟩
    · exact a3 k (by omega)
  · rw [eB]
    split
    · exact wb_lt _ _
    · exact b k
  · rw [eB, e1]
    split
    · exact mb_get x (by omega)
    · exact d k (by omega)
theorem ap_l {x : Int32} {n j : Nat} {G : gS} : (ap x n G j).2 = G.2 := rfl
theorem apM_l {x : Int32} {n j : Nat} {G : gS} : (apM x n G j).2 = G.2 := rfl
theorem mm_apM {x : Int32} {n j : Nat} {G : gS} : mmF (apM x n G j) = mmF G := by
  refine mmF_fr (S := fun q => q = 1 ∨ q = 100) ⟨fun r hr => apM_o (fun e => hr (Or.inl e)) (fun e => hr (Or.inr e)), fun _ _ => rfl, rfl⟩ (by decide +kernel)
section
variable {GC GM GC' GM' : gS} {mc fc wd nf n jr : Nat} {jk nk lv : Nat → Nat} {st : Bool} {x y : Int32}
/-- the tapes alone changed -/
theorem rr_tape (ht : told GC GM mc fc wd nf jk nk lv) (hr : ran GC GM mc jk nk st) (ho : oth GC GM n jr jk) {n2 : Nat} (h2 : tpE GC' GM' n2) (hc : ∀ q, q ≠ 1 → q ≠ 2 → GC'.1 q = GC.1 q) (hc2 : GC'.2 = GC.2) (hm : ∀ q, q ≠ 1 → q ≠ 100 → GM'.1 q = GM.1 q) (hm2 : GM'.2 = GM.2) (hs : ∀ q, q ≠ 2 → GM'.1 100 q = GM.1 100 q) : RR GC' GM' := by
  have hcT : ∀ q, cT q → GC'.1 q = GC.1 q := fun q hq => hc q (by unfold cT at hq; omega) (by unfold cT at hq; omega)
  have hl : GC'.2.1 13 = GC.2.1 13 := by rw [hc2]
  have hmf : mF GC' = mF GC := by
    funext i
    unfold mF
    by_cases hi : i < 8
    · rw [if_pos hi, if_pos hi, hc (32 + i) (by omega) (by omega)]
    · rw [if_neg hi, if_neg hi]
  have hmm : mmF GM' = mmF GM := mmF_fr (S := fun q => q = 1 ∨ q = 100) ⟨fun r hr => hm r (fun e => hr (Or.inl e)) (fun e => hr (Or.inr e)), fun _ _ => by rw [hm2], by rw [hm2]⟩ (by decide +kernel)
  have hj := ht.2.2.2.2.2.2.2.2.2.2.2.2.1.1
  refine ⟨mc, fc, wd, nf, jk, nk, lv, st, n2, jr, ht.fr hcT hl (by rw [hc2]) (fun q hq => hm q (by unfold relS at hq; omega) (by unfold relS at hq; omega)) (hs 36 (by decide)) (hs 41 (by decide)) (hs 44 (by decide)) (hs 45 (by decide)) (fun i hi k hk => ⟨by rw [hmf], by rw [hmm]⟩), hr.fr (by rw [hc 0 (by decide) (by decide)]) ?_ (hC_cT hcT hl hj) (fun q a b => hm q (by omega) (by omega)) hmm (hs 53 (by decide)) (hs 66 (by decide)), h2, ?_, ?_, ?_⟩
  · unfold stR
    rw [hmf, hc 17 (by decide) (by decide), hc 18 (by decide) (by decide), hc 19 (by decide) (by decide), hc 15 (by decide) (by decide), hc2]
  · rw [hc 3 (by decide) (by decide), hs 17 (by decide)]; exact ho.2.1
  · rw [hm2]; exact ho.2.2.1
  · rw [hc2]; exact ho.2.2.2
theorem st_feed (ht : told GC GM mc fc wd nf jk nk lv) (hr : ran GC GM mc jk nk st) (ho : oth GC GM n jr jk) {a b c d e : Int32} (h1 : if n + 20 ≤ 2000 then (x = nI (n + 16 + 4) ∧ GC' = fdG GC n a b c d e) else (x = -1 ∧ GC' = GC)) (h2 : if n + 20 ≤ 2000 then (y = nI (n + 16 + 4) ∧ GM' = fdM GM n a b c d e) else (y = -1 ∧ GM' = GM)) : x = y ∧ RR GC' GM' := by
  by_cases hn : n + 20 ≤ 2000
  · rw [if_pos hn] at h1 h2
    obtain ⟨rfl, rfl⟩ := h1
    obtain ⟨rfl, rfl⟩ := h2
    refine ⟨rfl, rr_tape ht hr ho (n2 := n + 16 + 4) (tp_ap (n := n + 16) (tp_ap (n := n + 12) (tp_ap (n := n + 8) (tp_ap (n := n + 4) (tp_ap ho.1 (by omega) a) (by omega) b) (by omega) c) (by omega) d) (by omega) e) (fun q q1 q2 => ?_) rfl (fun q q1 q2 => ?_) rfl (fun q hq => ?_)⟩
    · unfold fdG
      rw [ap_o q1 q2, ap_o q1 q2, ap_o q1 q2, ap_o q1 q2, ap_o q1 q2]
    · unfold fdM
      rw [apM_o q1 q2, apM_o q1 q2, apM_o q1 q2, apM_o q1 q2, apM_o q1 q2]
    · unfold fdM
      rw [apM_sl hq, apM_sl hq, apM_sl hq, apM_sl hq, apM_sl hq]
  · rw [if_neg hn] at h1 h2
    obtain ⟨rfl, rfl⟩ := h1
    obtain ⟨rfl, rfl⟩ := h2
    exact ⟨rfl, mc, fc, wd, nf, jk, nk, lv, st, n, jr, ht, hr, ho⟩
theorem st_back (ht : told GC GM mc fc wd nf jk nk lv) (hr : ran GC GM mc jk nk st) (ho : oth GC GM n jr jk) {z : Int32} (h1 : if ¬ z < 0 ∧ ¬ GC.1 1 1 < z then (x = GC.1 1 1 - z ∧ GC' = sI GC 1 1 (GC.1 1 1 - z)) else (x = -1 ∧ GC' = GC)) (h2 : if ¬ z < 0 ∧ ¬ GM.1 100 2 < z then (y = GM.1 100 2 - z ∧ GM' = sI GM 100 2 (GM.1 100 2 - z)) else (y = -1 ∧ GM' = GM)) : x = y ∧ RR GC' GM' := by
  obtain ⟨⟨a1, a2, a3⟩, b, c, d⟩ := ho.1
  rw [a1] at h1
  rw [c] at h2
  by_cases hc : ¬ z < 0 ∧ ¬ nI n < z
  · rw [if_pos hc] at h1 h2
    obtain ⟨j, hj, rfl⟩ := nI_of hc.1
    have hjn : j ≤ n := by
      rcases Nat.lt_or_ge n j with g | g
      · exact absurd (nI_lt g hj) hc.2
      · exact g
    rw [pk_sub hjn] at h1 h2
    obtain ⟨rfl, rfl⟩ := h1
    obtain ⟨rfl, rfl⟩ := h2
    refine ⟨rfl, rr_tape ht hr ho (n2 := n - j) ⟨⟨by rw [sI_s, upd_s], by omega, fun k hk => ?_⟩, b, by rw [sI_s, upd_s], fun k hk => ?_⟩ (fun q q1 q2 => sI_o q1) rfl (fun q q1 q2 => sI_o q2) rfl (fun q hq => by rw [sI_s, upd_o hq])⟩
    · exact a3 k (by omega)
    · rw [sI_o (by decide)]
      exact d k (by omega)
  · rw [if_neg hc] at h1 h2
    obtain ⟨rfl, rfl⟩ := h1
    obtain ⟨rfl, rfl⟩ := h2
    exact ⟨rfl, mc, fc, wd, nf, jk, nk, lv, st, n, jr, ht, hr, ho⟩
theorem oth.c (ho : oth GC GM n jr jk) (hc : ∀ q, q = 1 ∨ q = 2 ∨ q = 3 → GC'.1 q = GC.1 q) (hr : GC'.2.2 = GC.2.2) (m1 : GM'.1 1 = GM.1 1) (s2 : GM'.1 100 2 = GM.1 100 2) (s17 : GM'.1 100 17 = GM.1 100 17) (l9 : GM'.2.1 9 = GM.2.1 9) : oth GC' GM' n jr jk := ho.fr (hc 1 (by omega)) (hc 2 (by omega)) (by rw [hc 3 (by omega)]) hr m1 s2 s17 l9
theorem st_width (ht : told GC GM mc fc wd nf jk nk lv) (hr : ran GC GM mc jk nk st) (ho : oth GC GM n jr jk) {z : Int32} (h1 : if ¬ z < nI 1 ∧ ¬ nI 8 < z then (x = nI 1 ∧ GC' = sI (sI GC 6 5 z) 0 4 (nI 1)) else (x = nI 0 ∧ GC' = GC)) (h2 : if ¬ z < nI 1 ∧ ¬ nI 8 < z then (y = nI 1 ∧ GM' = sI (sI GM 100 44 z) 100 53 (nI 0)) else (y = nI 0 ∧ GM' = GM)) : x = y ∧ RR GC' GM' := by
  by_cases hc : ¬ z < nI 1 ∧ ¬ nI 8 < z
  · rw [if_pos hc] at h1 h2
    obtain ⟨w, hw, rfl⟩ := nI_of (x := z) (fun q => hc.1 (Int32.lt_trans q (by decide)))
    obtain ⟨rfl, rfl⟩ := h1
    obtain ⟨rfl, rfl⟩ := h2
    have w1 : 1 ≤ w := by
      rcases Nat.lt_or_ge w 1 with g | g
      · exact absurd (nI_lt g (by decide)) hc.1
      · exact g
    have w8 : w ≤ 8 := by
      rcases Nat.lt_or_ge 8 w with g | g
      · exact absurd (nI_lt g hw) hc.2
      · exact g
    obtain ⟨⟨a1, a2, a3⟩, ⟨b1, b2, b3⟩, c1, -, e1, ⟨f1, f2, f3⟩, g1, g2, g3, g4, i1, i2, i3, i4⟩ := ht
    have hmf : mF (sI (sI GC 6 5 (nI w)) 0 4 (nI 1)) = mF GC := by
      funext i
      unfold mF
      by_cases hi : i < 8
      · rw [if_pos hi, if_pos hi, sI_o (by omega), sI_o (by omega)]
      · rw [if_neg hi, if_neg hi]
    have hmm : mmF (sI (sI GM 100 44 (nI w)) 100 53 (nI 0)) = mmF GM := by rw [mmF_o (by decide), mmF_o (by decide)]
    refine ⟨rfl, mc, fc, w, nf, jk, nk, lv, true, n, jr, ⟨⟨?_, ?_, a3⟩, ⟨?_, ?_, b3⟩, ?_, ⟨?_, ?_, w1, w8⟩, ?_, ⟨?_, ?_, f3⟩, ?_, ?_, ?_, ?_, ?_, ?_, ?_, ?_⟩, ran.st ?_ ?_, ?_⟩
    · rw [sI_o (by decide), sI_s, upd_o (by decide)]; exact a1
    · rw [sI_s, upd_o (by decide), sI_s, upd_o (by decide)]; exact a2
    · rw [sI_o (by decide), sI_s, upd_o (by decide)]; exact b1
    · rw [sI_s, upd_o (by decide), sI_s, upd_o (by decide)]; exact b2
    · rw [sI_o (by decide), sI_o (by decide), sI_o (by decide), sI_o (by decide), sI_o (by decide), sI_o (by decide), sI_o (by decide), sI_o (by decide)]; exact c1
    · rw [sI_o (by decide), sI_s, upd_s]
    · rw [sI_s, upd_o (by decide), sI_s, upd_s]
    · rw [sI_o (by decide), sI_o (by decide), sI_o (by decide), sI_o (by decide)]; exact e1
    · rw [sI_o (by decide), sI_o (by decide)]; exact f1
    · rw [sI_s, upd_o (by decide), sI_s, upd_o (by decide)]; exact f2
    · rw [sI_o (by decide), sI_o (by decide), sI_o (by decide), sI_o (by decide), sI_o (by decide), sI_o (by decide)]; exact g1
    · rw [sI_o (by decide), sI_o (by decide), sI_o (by decide), sI_o (by decide)]; exact g2
    · rw [sI_o (by decide), sI_o (by decide)]; exact g3
    · rw [sI_o (by decide), sI_o (by decide), sI_o (by decide), sI_o (by decide)]; exact g4
    · rw [hmf]; exact i1
    · rw [hmf, hmm]; exact i2
    · exact i3.c (fun q a b => by rw [sI_o (by omega), sI_o (by omega)]) rfl
    · exact fun k hk => (i4 k hk).c (i3.1 k) (fun q a b => by rw [sI_o (by omega), sI_o (by omega)]) (fun q a => by rw [sI_o (by omega), sI_o (by omega)]) hk
    · rw [sI_s, upd_s]
    · rw [sI_s, upd_s]
    · exact ho.c (fun q a => by rw [sI_o (by omega), sI_o (by omega)]) rfl (by rw [sI_o (by decide), sI_o (by decide)]) (by rw [sI_s, upd_o (by decide), sI_s, upd_o (by decide)]) (by rw [sI_s, upd_o (by decide), sI_s, upd_o (by decide)]) rfl
  · rw [if_neg hc] at h1 h2
    obtain ⟨rfl, rfl⟩ := h1
    obtain ⟨rfl, rfl⟩ := h2
    exact ⟨rfl, mc, fc, wd, nf, jk, nk, lv, st, n, jr, ht, hr, ho⟩
theorem st_wake (ht : told GC GM mc fc wd nf jk nk lv) (hr : ran GC GM mc jk nk st) (ho : oth GC GM n jr jk) {k t : Int32} (h1 : if belB k (nI 4) = true ∧ belB t (nI 300) = true then (x = nI 1 ∧ GC' = sI (sI GC 10 (cN k) t) 0 4 (nI 1)) else (x = nI 0 ∧ GC' = GC)) (h2 : if belB k (nI 4) = true ∧ belB t (nI 300) = true then (y = nI 1 ∧ GM' = sI (sI GM 40 (cN k) t) 100 53 (nI 0)) else (y = nI 0 ∧ GM' = GM)) : x = y ∧ RR GC' GM' := by
  by_cases hc : belB k (nI 4) = true ∧ belB t (nI 300) = true
  · rw [if_pos hc] at h1 h2
    obtain ⟨rfl, rfl⟩ := h1
    obtain ⟨rfl, rfl⟩ := h2
    obtain ⟨⟨a1, a2, a3⟩, ⟨b1, b2, b3⟩, c1, ⟨d1, d2, d3, d4⟩, e1, ⟨f1, f2, f3⟩, g1, g2, g3, g4, i1, i2, i3, i4⟩ := ht
    have hmf : mF (sI (sI GC 10 (cN k) t) 0 4 (nI 1)) = mF GC := by
      funext i
      unfold mF
      by_cases hi : i < 8
      · rw [if_pos hi, if_pos hi, sI_o (by omega), sI_o (by omega)]
      · rw [if_neg hi, if_neg hi]
    have hmm : mmF (sI (sI GM 40 (cN k) t) 100 53 (nI 0)) = mmF GM := by rw [mmF_o (by decide), mmF_o (by decide)]
    refine ⟨rfl, mc, fc, wd, nf, jk, nk, lv, true, n, jr, ⟨⟨?_, ?_, a3⟩, ⟨?_, ?_, b3⟩, ?_, ⟨?_, ?_, d3, d4⟩, ?_, ⟨?_, ?_, f3⟩, ?_, ?_, ?_, ?_, ?_, ?_, ?_, ?_⟩, ran.st ?_ ?_, ?_⟩
    · rw [sI_o (by decide), sI_o (by decide)]; exact a1
    · rw [sI_s, upd_o (by decide), sI_o (by decide)]; exact a2
    · rw [sI_o (by decide), sI_o (by decide)]; exact b1
    · rw [sI_s, upd_o (by decide), sI_o (by decide)]; exact b2
    · rw [sI_o (by decide), sI_o (by decide), sI_o (by decide), sI_o (by decide), sI_o (by decide), sI_o (by decide), sI_o (by decide), sI_o (by decide)]; exact c1
    · rw [sI_o (by decide), sI_o (by decide)]; exact d1
    · rw [sI_s, upd_o (by decide), sI_o (by decide)]; exact d2
    · intro q hq
      rw [sI_o (by decide), sI_s, sI_o (by decide), sI_s]
      by_cases e : q = cN k
      · subst e; rw [upd_s, upd_s]
      · rw [upd_o e, upd_o e]; exact e1 q hq
    · rw [sI_o (by decide), sI_o (by decide)]; exact f1
    · rw [sI_s, upd_o (by decide), sI_o (by decide)]; exact f2
    · rw [sI_o (by decide), sI_o (by decide), sI_o (by decide), sI_o (by decide), sI_o (by decide), sI_o (by decide)]; exact g1
    · rw [sI_o (by decide), sI_o (by decide), sI_o (by decide), sI_o (by decide)]; exact g2
    · rw [sI_o (by decide), sI_o (by decide)]; exact g3
    · rw [sI_o (by decide), sI_o (by decide), sI_o (by decide), sI_o (by decide)]; exact g4
    · rw [hmf]; exact i1
    · rw [hmf, hmm]; exact i2
    · exact i3.c (fun q a b => by rw [sI_o (by omega), sI_o (by omega)]) rfl
    · exact fun k hk => (i4 k hk).c (i3.1 k) (fun q a b => by rw [sI_o (by omega), sI_o (by omega)]) (fun q a => by rw [sI_o (by omega), sI_o (by omega)]) hk
    · rw [sI_s, upd_s]
    · rw [sI_s, upd_s]
    · exact ho.c (fun q a => by rw [sI_o (by omega), sI_o (by omega)]) rfl (by rw [sI_o (by decide), sI_o (by decide)]) (by rw [sI_s, upd_o (by decide), sI_o (by decide)]) (by rw [sI_s, upd_o (by decide), sI_o (by decide)]) rfl
  · rw [if_neg hc] at h1 h2
    obtain ⟨rfl, rfl⟩ := h1
    obtain ⟨rfl, rfl⟩ := h2
    exact ⟨rfl, mc, fc, wd, nf, jk, nk, lv, st, n, jr, ht, hr, ho⟩
theorem st_place (ho : oth GC GM n jr jk) (hRR : RR GC GM) (h1 : x = GC.1 3 8 ∧ GC' = GC) (h2 : y = GM.1 100 17 ∧ GM' = GM) : x = y ∧ RR GC' GM' := by
  obtain ⟨rfl, rfl⟩ := h1
  obtain ⟨rfl, rfl⟩ := h2
  exact ⟨ho.2.1, hRR⟩
theorem st_wakes (ht : told GC GM mc fc wd nf jk nk lv) (hRR : RR GC GM) {k : Int32} (h1 : if belB k (nI 4) = true then (x = GC.1 10 (cN k) ∧ GC' = GC) else (x = -1 ∧ GC' = GC)) (h2 : if belB k (nI 4) = true then (y = GM.1 40 (cN k) ∧ GM' = GM) else (y = -1 ∧ GM' = GM)) : x = y ∧ RR GC' GM' := by
  by_cases hc : belB k (nI 4) = true
  · rw [if_pos hc] at h1 h2
    obtain ⟨k, q, rfl⟩ := belB_t hc (by decide)
    obtain ⟨rfl, rfl⟩ := h1
    obtain ⟨rfl, rfl⟩ := h2
    rw [cN_nI (by omega)]
    exact ⟨(ht.2.2.2.2.1 k q).symm, hRR⟩
  · rw [if_neg hc] at h1 h2
    obtain ⟨rfl, rfl⟩ := h1
    obtain ⟨rfl, rfl⟩ := h2
    exact ⟨rfl, hRR⟩
end
