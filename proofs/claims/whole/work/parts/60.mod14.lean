/-! the reference: a rule -/
def tlS (q : Nat) : Prop := (20 ≤ q ∧ q ≤ 30) ∨ xS q
/-- what the reading of a rule may change: page s alone -/
def tlF (G G1 : gS) (s : Nat) : Prop := Fr tlS G G1 ∧ (∀ q, q ≠ 11 → q ≠ 12 → q ≠ 13 → q ≠ 14 → q ≠ 15 → q ≠ 16 → q ≠ 31 → q ≠ 35 → G1.1 100 q = G.1 100 q) ∧ (∀ j, j ≠ s → G1.1 20 j = G.1 20 j ∧ G1.1 25 j = G.1 25 j) ∧ (∀ p, 21 ≤ p → p ≤ 24 → ∀ j, (j < 20 * s ∨ 20 * s + 20 ≤ j) → G1.1 p j = G.1 p j) ∧ (∀ p, 26 ≤ p → p ≤ 30 → ∀ j, (j < 200 * s ∨ 200 * s + 200 ≤ j) → G1.1 p j = G.1 p j) ∧ ∀ j, (j < 500 * s ∨ 500 * s + 500 ≤ j) → G1.1 32 j = G.1 32 j ∧ G1.1 33 j = G.1 33 j
theorem tlF.refl {G : gS} {s : Nat} : tlF G G s := ⟨Fr.refl, fun _ _ _ _ _ _ _ _ _ => rfl, fun _ _ => ⟨rfl, rfl⟩, fun _ _ _ _ _ => rfl, fun _ _ _ _ _ => rfl, fun _ _ => ⟨rfl, rfl⟩⟩
theorem tlF.sl {G G1 : gS} {s q : Nat} {v : Int32} (h : tlF G G1 s) (hq : (11 ≤ q ∧ q ≤ 16) ∨ q = 31 ∨ q = 35) : tlF G (sI G1 100 q v) s := by
  obtain ⟨a1, a2, a3, a4, a5, a6⟩ := h
  exact ⟨a1.sI (Or.inr (Or.inr (Or.inr (Or.inr rfl)))), fun p b1 b2 b3 b4 b5 b6 b7 b8 => by rw [sI_s, upd_o (by omega)]; exact a2 p b1 b2 b3 b4 b5 b6 b7 b8, fun j hj => by rw [sI_o (by decide), sI_o (by decide)]; exact a3 j hj, fun p x y j hj => by rw [sI_o (by omega)]; exact a4 p x y j hj, fun p x y j hj => by rw [sI_o (by omega)]; exact a5 p x y j hj, fun j hj => by rw [sI_o (by decide), sI_o (by decide)]; exact a6 j hj⟩
theorem tlF.wr {G G1 : gS} {s q i : Nat} {v : Int32} (h : tlF G G1 s) (hq : 21 ≤ q ∧ q ≤ 24) (hi : i < 20) : tlF G (sI G1 q (20 * s + i) v) s := by
  obtain ⟨a1, a2, a3, a4, a5, a6⟩ := h
  refine ⟨a1.sI (Or.inl (by omega)), fun p b1 b2 b3 b4 b5 b6 b7 b8 => by rw [sI_o (by omega)]; exact a2 p b1 b2 b3 b4 b5 b6 b7 b8, fun j hj => by rw [sI_o (by omega), sI_o (by omega)]; exact a3 j hj, fun p x y j hj => ?_, fun p x y j hj => by rw [sI_o (by omega)]; exact a5 p x y j hj, fun j hj => by rw [sI_o (by omega), sI_o (by omega)]; exact a6 j hj⟩
  by_cases e : p = q
  · subst e; rw [sI_s, upd_o (by omega)]; exact a4 p x y j hj
  · rw [sI_o e]; exact a4 p x y j hj
theorem tlF.w2 {G G1 : gS} {s q : Nat} {v : Int32} (h : tlF G G1 s) (hq : q = 20 ∨ q = 25) : tlF G (sI G1 q s v) s := by
  obtain ⟨a1, a2, a3, a4, a5, a6⟩ := h
  refine ⟨a1.sI (Or.inl (by omega)), fun p b1 b2 b3 b4 b5 b6 b7 b8 => by rw [sI_o (by omega)]; exact a2 p b1 b2 b3 b4 b5 b6 b7 b8, fun j hj => ?_, fun p x y j hj => by rw [sI_o (by omega)]; exact a4 p x y j hj, fun p x y j hj => by rw [sI_o (by omega)]; exact a5 p x y j hj, fun j hj => by rw [sI_o (by omega), sI_o (by omega)]; exact a6 j hj⟩
  rcases hq with rfl | rfl
  · rw [sI_s, upd_o hj, sI_o (by decide)]; exact a3 j hj
  · rw [sI_s, upd_o hj, sI_o (by decide)]; exact a3 j hj
theorem tlF.rl {G G1 G2 : gS} {s rl cd kb : Nat} (h : tlF G G1 s) (h2 : rlF G1 G2 s rl cd kb) (hc : 500 * s ≤ cd) (hc2 : cd ≤ 500 * s + kb) (hr : rl < 200) : tlF G G2 s := by
  obtain ⟨a1, a2, a3, a4, a5, a6⟩ := h
  obtain ⟨b1, b2, b3, b4, b5⟩ := h2
  refine ⟨Fr.trans a1 (b1.mono (fun q z => z.elim (fun z => Or.inl (by omega)) Or.inr)), fun p c1 c2 c3 c4 c5 c6 c7 c8 => (b2 p c1 c2 c3 c4 c7 c8).trans (a2 p c1 c2 c3 c4 c5 c6 c7 c8), fun j hj => ?_, fun p x y j hj => ?_, fun p x y j hj => ?_, fun j hj => ?_⟩
  · rw [b1.1 20 (by unfold rlS xS; omega), b5 j hj]; exact a3 j hj
  · rw [b1.1 p (by unfold rlS xS; omega)]; exact a4 p x y j hj
  · rw [b4 p x y j (by omega)]; exact a5 p x y j hj
  · obtain ⟨e1, e2⟩ := b3 j (by omega)
    rw [e1, e2]; exact a6 j hj
/-- the first wrong number -/
def wsI (G : gS) (B : Nat → Nat) (n : Nat) (fw : Int32) (k : Nat) : Prop := (fw = -1 ∧ G.1 100 15 = 0) ∨ ∃ j, j < k ∧ fw = nI (tkT B n j).2.2.1 ∧ G.1 100 15 = nI 5 ∧ G.1 100 16 = fw
theorem wsI.mono {G G' : gS} {B : Nat → Nat} {n k k2 : Nat} {fw : Int32} (h : wsI G B n fw k) (hk : k ≤ k2) (h1 : G'.1 100 15 = G.1 100 15) (h2 : G'.1 100 16 = G.1 100 16) : wsI G' B n fw k2 := by
  rcases h with ⟨a, b⟩ | ⟨j, a, b, c, d⟩
  · exact Or.inl ⟨a, by rw [h1]; exact b⟩
  · exact Or.inr ⟨j, by omega, b, by rw [h1]; exact c, by rw [h2]; exact d⟩
def tlI (G : gS) (B : Nat → Nat) (n : Nat) (R : Int32 × Int32 × pS) (s k : Nat) (rs : List pR) (qs : List qR) (cd : Nat) (fw : Int32) (rel : Bool) : Prop := Lv B n R k (0, 0, rel, fw, [], rs) ∧ rsQ rs qs ∧ pgL G s cd qs ∧ G.1 20 s = nI rs.length ∧ G.1 25 s = nI (rlT qs) ∧ 3 * rlT qs ≤ k ∧ 500 * s ≤ cd ∧ cd ≤ 500 * s + k ∧ G.1 100 11 = nI k ∧ G.1 100 12 = nI 0 ∧ G.1 100 13 = 0 ∧ G.1 100 31 = nI cd ∧ wsI G B n fw k ∧ G.1 100 19 = nI s
def tlP (G G' : gS) (B : Nat → Nat) (n : Nat) (R : Int32 × Int32 × pS) (s k : Nat) : Prop := tlF G G' s ∧ ((∃ t, G'.1 100 11 = nI t ∧ t ≤ 401 ∧ Ft G' R) ∨ ∃ (k2 : Nat) (rs : List pR) (qs : List qR) (cd : Nat) (fw : Int32) (rel : Bool), k < k2 ∧ tlI G' B n R s k2 rs qs cd fw rel)
/-- in the midst of a rule -/
def tlM (G G1 : gS) (B : Nat → Nat) (n s k cd : Nat) (fw : Int32) (rs : List pR) (qs : List qR) (a : Bool) (x : Nat) (rels : List rl) : Prop := tlF G G1 s ∧ pgL G1 s cd qs ∧ rs.length = qs.length ∧ G1.1 20 s = nI rs.length ∧ G1.1 25 s = nI (rlT qs + rels.length) ∧ 3 * (rlT qs + rels.length) ≤ k ∧ 500 * s ≤ cd ∧ cd ≤ 500 * s + k ∧ G1.1 21 (20 * s + rs.length) = bI a ∧ G1.1 22 (20 * s + rs.length) = nI x ∧ G1.1 23 (20 * s + rs.length) = nI (rlT qs) ∧ rlsB G1 (500 * s) cd (200 * s + rlT qs) rels ∧ G1.1 100 11 = nI k ∧ G1.1 100 12 = nI 0 ∧ G1.1 100 13 = 0 ∧ G1.1 100 31 = nI cd ∧ wsI G1 B n fw k ∧ G1.1 100 19 = nI s
theorem pgL.s {G : gS} {s lim q : Nat} {v : Int32} {qs : List qR} (hl : lim < 2 ^ 31) (h : pgL G s lim qs) : pgL (sI G 100 q v) s lim qs := pgL.ext (Nat.le_refl _) hl (fun j _ _ => by rw [sI_o (by decide), sI_o (by decide)]; exact ⟨rfl, rfl⟩) h (fun p a b j _ _ => by rw [sI_o (by omega)]) (fun p a b j _ _ => by rw [sI_o (by omega)])
theorem rlsB.s {G : gS} {lo lim q k : Nat} {v : Int32} {R : List rl} (hl : lim < 2 ^ 31) (h : rlsB G lo lim k R) : rlsB (sI G 100 q v) lo lim k R := rlsB.ext (Nat.le_refl _) hl (fun j _ _ => by rw [sI_o (by decide), sI_o (by decide)]; exact ⟨rfl, rfl⟩) h (fun p a b j _ _ => by rw [sI_o (by omega)])
theorem tlM.nx {G G1 : gS} {B : Nat → Nat} {n s k cd : Nat} {fw : Int32} {rs : List pR} {qs : List qR} {a : Bool} {x : Nat} {rels : List rl} (hs : s < 4) (hk : k ≤ 400) (h : tlM G G1 B n s k cd fw rs qs a x rels) : tlM G (sI G1 100 11 (nI (k + 1))) B n s (k + 1) cd fw rs qs a x rels := by
  obtain ⟨h1, h2, h3, h4, h5, h6, h7, h8, h9, h10, h11, h12, h13, h14, h15, h16, h17, h18⟩ := h
  refine ⟨h1.sl (by omega), pgL.s (by omega) h2, h3, by rw [sI_o (by decide)]; exact h4, by rw [sI_o (by decide)]; exact h5, by omega, h7, by omega, by rw [sI_o (by decide)]; exact h9, by rw [sI_o (by decide)]; exact h10, by rw [sI_o (by decide)]; exact h11, rlsB.s (by omega) h12, by rw [sI_s, upd_s], by rw [sI_s, upd_o (by decide)]; exact h14, by rw [sI_s, upd_o (by decide)]; exact h15, by rw [sI_s, upd_o (by decide)]; exact h16, h17.mono (by omega) (by rw [sI_s, upd_o (by decide)]) (by rw [sI_s, upd_o (by decide)]), by rw [sI_s, upd_o (by decide)]; exact h18⟩
theorem tokC_s {B : Nat → Nat} {n i : Nat} (h : i ≤ n) : (tokC B n i).2.2.1 ≤ n := Nat.le_trans (tokC_le h).2.2 (tokC_le h).1
set_option maxHeartbeats 4000000 in
set_option maxRecDepth 100000 in
theorem tX9_tellRule (Y : gY) (hY : Y.2.2.2 = wM) {G : gS} {B : Nat → Nat} {n : Nat} {R : Int32 × Int32 × pS} {s k : Nat} {rs : List pR} {qs : List qR} {cd : Nat} {fw : Int32} {rel : Bool} (hTK : TK G B n) (hn2000 : n ≤ 2000) (hs4 : s < 4) (hI : tlI G B n R s k rs qs cd fw rel) (hnz : (tkT B n k).1 ≠ nI 0) : ∀ l : Launch, gM Y l yX9_tellRule cX9_tellRule 5 none (4, 93) [.ref (Y.2.1 (100))] G (qv (fun G' => tlP G G' B n R s k)) := by
  intro l
  refine gM_of hY rfl (Nat.le_of_ble_eq_true rfl) [some (.ref (Y.2.1 (100))), none, none, none, none] rfl rfl ?_
  rintro Z rfl C
  obtain ⟨i1, i2, i3, i4, i5, i6, i7, i8, i9, i10, i11, i12, i13, i14⟩ := hI
  have hlen := i2.len
  have hk4 := i1.1
  obtain ⟨hk1, hk2p⟩ := hTK k hk4 i1.2.1
  have htq := hk1.q
  have e6 : G.1 6 k = nI (tkT B n k).2.2.1 := hk2p
  obtain ⟨b, hb40, hkd, hbs, hb12, hb20, hb22, -, -, -, -, hb0, -, -⟩ := tkk hk1
  have pl_n : ∀ (B : Nat → Nat) (n j : Nat), n ≤ 2000 → (tkT B n j).2.2.1 ≤ 2000 := fun B n j h => Nat.le_trans (tokC_s (pP_le B n j)) h
  have pl_n := fun (B' : Nat → Nat) (n' j : Nat) => (Nat.le_trans (tokC_s (pP_le B n j)) hn2000 : (tkT B n j).2.2.1 ≤ 2000)
  by_cases h20k : b = 20
  · subst h20k
    have hlv := lv0 (a := false) i1 rfl (Or.inl ⟨hb20.mp rfl, rfl⟩) htq
    refine r_aload0 (pc := 0) C dX9_tellRule_0 ?_
    refine r_bipush (pc := 1) (v := nI 20) C dX9_tellRule_1 (by decide) ?_
    refine r_callVi (pc := 3) C rfl dX9_tellRule_3 kX9_269 gF9 jM (tX9_is Z.1 C.w i9 (by omega)) rfl rfl (Nat.le_of_ble_eq_true rfl) (by decide) (fun x3 G3 h3 => ?_)
    obtain ⟨rfl, h3b⟩ := h3
    have h3b := h3b.symm
    subst h3b
    rw [isB_t i11 hkd]
    refine r_if_ne (pc := 6) 26 C dX9_tellRule_6 (by decide) (fun c6 => ?_) (fun c6 => ?_)
    rotate_left
    · exact absurd c6 (by decide)
    refine r_aload0 (pc := 26) C dX9_tellRule_26 ?_
    refine gX9_43 (pc := 27) C dX9_tellRule_27 ?_
    refine r_aload0 (pc := 30) C dX9_tellRule_30 ?_
    refine gX9_281 (pc := 31) C dX9_tellRule_31 ?_
    refine r_eqi i14 ?_
    refine r_iald (pc := 34) (_) C dX9_tellRule_34 aM20 (rfl) (by omega) ?_
    refine r_eqi i4 ?_
    refine r_bipush (pc := 35) (v := nI 20) C dX9_tellRule_35 (by decide) ?_
    refine r_icmp_ne (pc := 37) 45 C dX9_tellRule_37 (by decide) (fun c37 => ?_) (fun c37 => ?_)
    · have h20 : rs.length < 20 := by
        have h1 : rs.length ≤ 20 := i1.2.2.1.2.2.2.1
        have h2 : rs.length ≠ 20 := fun z => c37 (by rw [z])
        omega
      have s5 : ∀ (a : Bool) (x k2 cd2 : Nat) (fw2 : Int32) (rel2 : Bool) (c : List Int32) (rels : List rl) (o2 o3 o4 : Option Value) (G1 : gS), k < k2 → Lv B n R k2 (0, 0, rel2, fw2, [], (a, nI x, c) :: rs) → rqE (a, nI x, c) (a, nI x, rels) → tlM G G1 B n s k2 cd2 fw2 rs qs a x rels → WW Z (qv (fun G' => tlP G G' B n R s k)) 276 [some (.ref (ad Z (100))), some (.int (nI (20 * s + rs.length))), o2, o3, o4] [] G1 := by
        intro a x k2 cd2 fw2 rel2 c rels o2 o3 o4 G1 hk2 hL2 hq hm
        refine r_aload0 (pc := 276) C dX9_tellRule_276 ?_
        refine gX9_55 (pc := 277) C dX9_tellRule_277 ?_
        refine r_iload1 (pc := 280) C dX9_tellRule_280 ?_
        refine r_aload0 (pc := 281) C dX9_tellRule_281 ?_
        refine gX9_58 (pc := 282) C dX9_tellRule_282 ?_
        refine r_aload0 (pc := 285) C dX9_tellRule_285 ?_
        refine gX9_281 (pc := 286) C dX9_tellRule_286 ?_
        refine r_eqi (y := nI s) hm.2.2.2.2.2.2.2.2.2.2.2.2.2.2.2.2.2 ?_
        refine r_iald (pc := 289) (_) C dX9_tellRule_289 aM25 (rfl) (by omega) ?_
        refine r_eqi (y := nI (rlT qs + rels.length)) hm.2.2.2.2.1 ?_
        refine r_iast (pc := 290) (_) C dX9_tellRule_290 aM24 (rfl) (by omega) ?_
        refine r_aload0 (pc := 291) C dX9_tellRule_291 ?_
        refine gX9_43 (pc := 292) C dX9_tellRule_292 ?_
        refine r_aload0 (pc := 295) C dX9_tellRule_295 ?_
        refine gX9_281 (pc := 296) C dX9_tellRule_296 ?_
        refine r_eqi (y := nI s) (by rw [sI_o (by decide)]; exact hm.2.2.2.2.2.2.2.2.2.2.2.2.2.2.2.2.2) ?_
        refine r_dup2 (pc := 299) C dX9_tellRule_299 rfl rfl ?_
        refine r_iald (pc := 300) (_) C dX9_tellRule_300 aM20 (rfl) (by omega) ?_
        refine r_eqi (y := nI rs.length) (by rw [sI_o (by decide)]; exact hm.2.2.2.1) ?_
        refine r_iconst (pc := 301) (v := nI 1) C dX9_tellRule_301 (by decide) ?_
        refine r_iadd (pc := 302) C dX9_tellRule_302 ?_
        refine r_eqi (nI_add _ 1) ?_
        refine r_iast (pc := 303) (_) C dX9_tellRule_303 aM20 (rfl) (by omega) ?_
        exact r_return (pc := 304) C dX9_tellRule_304 (by
          obtain ⟨h1, h2, h3, h4, h5, h6, h7, h8, h9, h10, h11, h12, h13, h14, h15, h16, h17, h18⟩ := hm
          have hk24 := hL2.1
          refine ⟨(h1.wr (by decide) h20).w2 (by decide), Or.inr ⟨k2, (a, nI x, c) :: rs, (a, nI x, rels) :: qs, cd2, fw2, rel2, hk2, hL2, ⟨hq, i2⟩, ⟨?_, ?_, ?_, ?_, ?_, ?_⟩, ?_, ?_, by show 3 * (rels.length + rlT qs) ≤ k2; omega, h7, h8, ?_, ?_, ?_, ?_, ?_, ?_⟩⟩
          · rw [sI_o (by decide), sI_o (by decide), ← h3]; exact h9
          · rw [sI_o (by decide), sI_o (by decide), ← h3]; exact h10
          · rw [sI_o (by decide), sI_o (by decide), ← h3]; exact h11
          · rw [sI_o (by decide), sI_s, ← h3, upd_s]
          · refine rlsB.ext (Nat.le_refl _) (by omega) (fun j _ _ => ?_) h12 (fun p pa pb j _ _ => ?_)
            · rw [sI_o (by decide), sI_o (by decide), sI_o (by decide), sI_o (by decide)]; exact ⟨rfl, rfl⟩
            · rw [sI_o (by omega), sI_o (by omega)]
          · refine pgL.ext (Nat.le_refl _) (by omega) (fun j _ _ => ?_) h2 (fun p pa pb j ja jb => ?_) (fun p pa pb j _ _ => ?_)
            · rw [sI_o (by decide), sI_o (by decide), sI_o (by decide), sI_o (by decide)]; exact ⟨rfl, rfl⟩
            · rw [sI_o (by omega)]
              by_cases e : p = 24
              · subst e; rw [sI_s, upd_o (by omega)]
              · rw [sI_o e]
            · rw [sI_o (by omega), sI_o (by omega)]
          · rw [sI_s, upd_s]; rfl
          · rw [sI_o (by decide), sI_o (by decide), h5, rlT, Nat.add_comm]
          · rw [sI_o (by decide), sI_o (by decide)]; exact h13
          · rw [sI_o (by decide), sI_o (by decide)]; exact h14
          · rw [sI_o (by decide), sI_o (by decide)]; exact h15
          · rw [sI_o (by decide), sI_o (by decide)]; exact h16
          · exact h17.mono (Nat.le_refl _) (by rw [sI_o (by decide), sI_o (by decide)]) (by rw [sI_o (by decide), sI_o (by decide)])
          · rw [sI_o (by decide), sI_o (by decide)]; exact h18)
      have finM : ∀ (t : Nat) (o2 o3 o4 : Option Value) (G1 : gS), tlF G G1 s → G1.1 100 11 = nI t → t ≤ 401 → Ft G1 R → WW Z (qv (fun G' => tlP G G' B n R s k)) 263 [some (.ref (ad Z (100))), some (.int (nI (20 * s + rs.length))), o2, o3, o4] [] G1 := by
        intro t o2 o3 o4 G1 hf ht ht4 hft
        refine r_aload0 (pc := 263) C dX9_tellRule_263 ?_
        refine r_iconst (pc := 264) (v := nI 4) C dX9_tellRule_264 (by decide) ?_
        refine r_callVv (pc := 265) C rfl dX9_tellRule_265 kX9_294 gF9 jM (tX9_must Z.1 C.w ht (by omega)) rfl rfl (Nat.le_of_ble_eq_true rfl) (by decide) (fun G265 h265 => ?_)
        rw [isB_ff hft.pos.2, if_neg (by decide), fF_p hft.pos.1] at h265
        subst h265
        refine r_aload0 (pc := 268) C dX9_tellRule_268 ?_
        refine gX9_251 (pc := 269) C dX9_tellRule_269 ?_
        refine r_if_le (pc := 272) 276 C dX9_tellRule_272 (by decide) (fun c272 => ?_) (fun c272 => ?_)
        · exact absurd c272 (Int32.not_le.mpr hft.pos.1)
        exact r_return (pc := 275) C dX9_tellRule_275 (⟨hf, Or.inl ⟨t, ht, ht4, hft⟩⟩)
      have s4 : ∀ (a : Bool) (x k2 cd2 : Nat) (fw2 : Int32) (rels : List rl) (o2 o3 o4 : Option Value) (G1 : gS), k < k2 → k2 ≤ 400 → (∀ i, i < k2 → (tkT B n i).1 ≠ nI 0) → tlM G G1 B n s k2 cd2 fw2 rs qs a x rels → (cN (tkT B n k2).1 = 12 → (k2 = 400 → R.1 = nI 2 ∧ R.2.1 = nI (tkT B n k2).2.2.1) ∧ (k2 ≠ 400 → ∃ rel2 c, Lv B n R (k2 + 1) (0, 0, rel2, fw2, [], (a, nI x, c) :: rs) ∧ rqE (a, nI x, c) (a, nI x, rels))) → (cN (tkT B n k2).1 ≠ 12 → R.1 = nI 1 ∧ R.2.1 = nI (tkT B n k2).2.2.1) → WW Z (qv (fun G' => tlP G G' B n R s k)) 263 [some (.ref (ad Z (100))), some (.int (nI (20 * s + rs.length))), o2, o3, o4] [] G1 := by
        intro a x k2 cd2 fw2 rels o2 o3 o4 G1 hk2 hk24 hpz hm hsemi hbad
        have t0 := hm.2.2.2.2.2.2.2.2.2.2.2.2.1
        have f0 : G1.1 100 13 = 0 := hm.2.2.2.2.2.2.2.2.2.2.2.2.2.2.1
        obtain ⟨hk1, hk2p⟩ := hTK k2 hk24 hpz
        have e5 : G1.1 5 k2 = G.1 5 k2 := by rw [hm.1.1.1 5 (by unfold tlS xS; decide)]
        have e6 : G1.1 6 k2 = nI (tkT B n k2).2.2.1 := by rw [hm.1.1.1 6 (by unfold tlS xS; decide)]; exact hk2p
        obtain ⟨b, hb40, hkd, hbs, -, -, -, -, -, -, hb4, -, -, -⟩ := tkk hk1
        refine r_aload0 (pc := 263) C dX9_tellRule_263 ?_
        refine r_iconst (pc := 264) (v := nI 4) C dX9_tellRule_264 (by decide) ?_
        refine r_callVv (pc := 265) C rfl dX9_tellRule_265 kX9_294 gF9 jM (tX9_must Z.1 C.w t0 (by omega)) rfl rfl (Nat.le_of_ble_eq_true rfl) (by decide) (fun G265 h265 => ?_)
        by_cases h4 : cN (tkT B n k2).1 = 12
        · rw [isB_t f0 (by rw [e5, hkd, hb4.mpr h4]), if_pos rfl] at h265
          subst h265
          by_cases h400 : k2 = 400
          · have hR := (hsemi h4).1 h400
            rw [nF_4 h400 f0]
            refine r_aload0 (pc := 268) C dX9_tellRule_268 ?_
            refine gX9_251 (pc := 269) C dX9_tellRule_269 ?_
            refine r_eqi (y := nI 2) (by rw [sI_s, upd_o (by decide), sI_s, upd_s]) ?_
            refine r_if_le (pc := 272) 276 C dX9_tellRule_272 (by decide) (fun c272 => ?_) (fun c272 => ?_)
            · exact absurd c272 (by decide)
            exact r_return (pc := 275) C dX9_tellRule_275 (⟨(hm.1.sl (by decide)).sl (by decide), Or.inl ⟨k2, by rw [sI_s, upd_o (by decide), sI_s, upd_o (by decide)]; exact t0, by omega, ⟨2, by decide, by decide, by rw [sI_s, upd_o (by decide), sI_s, upd_s], hR.1, by rw [sI_s, upd_s, hR.2, ← e6]⟩⟩⟩)
          · obtain ⟨rel2, c, hL2, hq⟩ := (hsemi h4).2 h400
            rw [nF_g h400]
            refine r_aload0 (pc := 268) C dX9_tellRule_268 ?_
            refine gX9_251 (pc := 269) C dX9_tellRule_269 ?_
            refine r_eqi (y := 0) (by rw [sI_s, upd_o (by decide)]; exact f0) ?_
            refine r_if_le (pc := 272) 276 C dX9_tellRule_272 (by decide) (fun c272 => ?_) (fun c272 => ?_)
            rotate_left
            · exact absurd c272 (fun h => h (by decide))
            exact s5 a x (k2 + 1) cd2 fw2 rel2 c rels _ _ _ _ (by omega) hL2 hq (hm.nx hs4 hk24)
        · rw [isB_f (by rw [e5, hkd]; exact nI_dj (fun z => h4 (hb4.mp z)) (by omega) (by decide)), if_neg (by decide), fF_0 f0] at h265
          subst h265
          have hR := hbad h4
          refine r_aload0 (pc := 268) C dX9_tellRule_268 ?_
          refine gX9_251 (pc := 269) C dX9_tellRule_269 ?_
          refine r_eqi (y := nI 1) (by rw [sI_s, upd_o (by decide), sI_s, upd_s]) ?_
          refine r_if_le (pc := 272) 276 C dX9_tellRule_272 (by decide) (fun c272 => ?_) (fun c272 => ?_)
          · exact absurd c272 (by decide)
          exact r_return (pc := 275) C dX9_tellRule_275 (⟨(hm.1.sl (by decide)).sl (by decide), Or.inl ⟨k2, by rw [sI_s, upd_o (by decide), sI_s, upd_o (by decide)]; exact t0, by omega, ⟨1, by decide, by decide, by rw [sI_s, upd_o (by decide), sI_s, upd_s], hR.1, by rw [sI_s, upd_s, hR.2, ← e6]⟩⟩⟩)
      have s3 : ∀ (a : Bool) (x : Nat) (fw2 : Int32) (hx9 : x ≤ 9999) (kk cd2 : Nat) (c : List Int32) (opsP : List Nat) (L : (Nat → Int32) → List Int32) (rels : List rl) (o : Bool) (j2 : Int32) (G1 : gS), k < kk → Lv B n R kk (5, 0, false, fw2, opsP, (a, nI x, c) :: rs) → (∀ v, cK v c (L v)) → cdS opsP L rels o → tlM G G1 B n s kk cd2 fw2 rs qs a x rels → WW Z (qv (fun G' => tlP G G' B n R s k)) 207 [some (.ref (ad Z (100))), some (.int (nI (20 * s + rs.length))), some (.int (j2)), some (.int (nI 1)), some (.int (bI o))] [] G1 := by
        intro a x fw2 hx9
        have loop3 : ∀ (k0 : Nat) (kk cd2 : Nat) (c : List Int32) (opsP : List Nat) (L : (Nat → Int32) → List Int32) (rels : List rl) (o : Bool) (j2 : Int32) (G1 : gS), k0 = 401 - kk → k < kk → Lv B n R kk (5, 0, false, fw2, opsP, (a, nI x, c) :: rs) → (∀ v, cK v c (L v)) → cdS opsP L rels o → tlM G G1 B n s kk cd2 fw2 rs qs a x rels → WW Z (qv (fun G' => tlP G G' B n R s k)) 207 [some (.ref (ad Z (100))), some (.int (nI (20 * s + rs.length))), some (.int (j2)), some (.int (nI 1)), some (.int (bI o))] [] G1 := by
          intro k0
          induction k0 using Nat.strongRecOn with
          | _ k0 ih =>
            intro kk cd2 c opsP L rels o j2 G1 hk0 hkk1 hL1 hK hcd hm
            have hkk4 := hL1.1
            refine r_iload3 (pc := 207) C dX9_tellRule_207 ?_
            refine r_if_eq (pc := 208) 263 C dX9_tellRule_208 (by decide) (fun c208 => ?_) (fun c208 => ?_)
            · exact absurd c208 (by decide)
            refine r_aload0 (pc := 211) C dX9_tellRule_211 ?_
            refine gX9_251 (pc := 212) C dX9_tellRule_212 ?_
            refine r_eqi (y := 0) hm.2.2.2.2.2.2.2.2.2.2.2.2.2.2.1 ?_
            refine r_if_ne (pc := 215) 263 C dX9_tellRule_215 (by decide) (fun c215 => ?_) (fun c215 => ?_)
            · exact absurd c215 (fun h => h rfl)
            refine r_aload0 (pc := 218) C dX9_tellRule_218 ?_
            refine r_iload4 (pc := 219) C dX9_tellRule_219 ?_
            refine r_callVv (pc := 221) C rfl dX9_tellRule_221 kX9_301 gF9 jM (tX9_relation Z.1 C.w (kb := kk) (cd := cd2) (rl := rlT qs + rels.length) (L0 := L) (rels := rels) (hTK.ex (hm.1.1.1 5 (by unfold tlS xS; decide)) (hm.1.1.1 6 (by unfold tlS xS; decide)) (hm.1.1.1 7 (by unfold tlS xS; decide))) hL1 hK hcd hs4 hm.2.2.2.2.2.2.2.1 hm.2.2.2.2.2.1 hm.2.2.2.2.2.2.2.2.2.2.2.2.2.2.2.2.2 hm.2.2.2.2.1 hm.2.2.2.2.2.2.2.2.2.2.2.2.1 hm.2.2.2.2.2.2.2.2.2.2.2.2.2.1 hm.2.2.2.2.2.2.2.2.2.2.2.2.2.2.1 hm.2.2.2.2.2.2.2.2.2.2.2.2.2.2.2.1) rfl rfl (Nat.le_of_ble_eq_true rfl) (by decide) (fun G221 h221 => ?_)
            obtain ⟨p1, q1⟩ := h221
            have htl : tlF G G221 s := hm.1.rl p1 hm.2.2.2.2.2.2.1 hm.2.2.2.2.2.2.2.1 (by have := hm.2.2.2.2.2.1; omega)
            rcases q1 with ⟨t, ht, ht4, hft⟩ | ⟨k2, E, w, c2, cd3, xv, yv, hL2, hrl, hrb, hcc, hck, hkk, t0, o0, f0, c31, hr25, hn9⟩
            · refine r_aload0 (pc := 224) C dX9_tellRule_224 ?_
              refine r_bipush (pc := 225) (v := nI 23) C dX9_tellRule_225 (by decide) ?_
              refine r_callVi (pc := 227) C rfl dX9_tellRule_227 kX9_269 gF9 jM (tX9_is Z.1 C.w ht (by omega)) rfl rfl (Nat.le_of_ble_eq_true rfl) (by decide) (fun x227 G227 h227 => ?_)
              obtain ⟨rfl, h227b⟩ := h227
              have h227b := h227b.symm
              subst h227b
              rw [isB_ff hft.pos.2]
              refine r_istore4 (pc := 230) C dX9_tellRule_230 rfl ?_
              refine r_iload4 (pc := 232) C dX9_tellRule_232 ?_
              refine r_if_ne (pc := 234) 246 C dX9_tellRule_234 (by decide) (fun c234 => ?_) (fun c234 => ?_)
              · exact absurd c234 (fun h => h rfl)
              refine r_aload0 (pc := 237) C dX9_tellRule_237 ?_
              refine r_bipush (pc := 238) (v := nI 24) C dX9_tellRule_238 (by decide) ?_
              refine r_callVi (pc := 240) C rfl dX9_tellRule_240 kX9_269 gF9 jM (tX9_is Z.1 C.w ht (by omega)) rfl rfl (Nat.le_of_ble_eq_true rfl) (by decide) (fun x240 G240 h240 => ?_)
              obtain ⟨rfl, h240b⟩ := h240
              have h240b := h240b.symm
              subst h240b
              rw [isB_ff hft.pos.2]
              refine r_if_eq (pc := 243) 250 C dX9_tellRule_243 (by decide) (fun c243 => ?_) (fun c243 => ?_)
              rotate_left
              · exact absurd c243 (fun h => h rfl)
              refine r_iconst (pc := 250) (v := nI 0) C dX9_tellRule_250 (by decide) ?_
              refine r_istore3 (pc := 251) C dX9_tellRule_251 rfl ?_
              refine r_iload3 (pc := 252) C dX9_tellRule_252 ?_
              refine r_if_eq (pc := 253) 207 C dX9_tellRule_253 (by decide) (fun c253 => ?_) (fun c253 => ?_)
              rotate_left
              · exact absurd c253 (fun h => h rfl)
              refine r_iload3 (pc := 207) C dX9_tellRule_207 ?_
              refine r_if_eq (pc := 208) 263 C dX9_tellRule_208 (by decide) (fun c208 => ?_) (fun c208 => ?_)
              rotate_left
              · exact absurd c208 (fun h => h rfl)
              exact finM t _ _ _ _ htl ht ht4 hft
            · have hk24 := hL2.1
              have hm2 : tlM G G221 B n s k2 cd3 fw2 rs qs a x (rels ++ [(o, w - 3, xv, yv)]) := by
                obtain ⟨h1, h2, h3, h4, h5, h6, h7, h8, h9, h10, h11, h12, h13, h14, h15, h16, h17, h18⟩ := hm
                have hcode : ∀ j, 500 * s ≤ j → j < cd2 → G221.1 32 j = G1.1 32 j ∧ G221.1 33 j = G1.1 33 j := fun j _ jb => p1.2.2.1 j (Or.inl jb)
                refine ⟨htl, pgL.ext hcc (by omega) hcode h2 (fun p pa pb j _ _ => by rw [p1.1.1 p (by unfold rlS xS; omega)]) (fun p pa pb j ja jb => p1.2.2.2.1 p pa pb j (by omega)), h3, by rw [p1.1.1 20 (by unfold rlS xS; decide)]; exact h4, by rw [hr25, List.length_append]; rfl, by rw [List.length_append]; simp; omega, by omega, by omega, by rw [p1.1.1 21 (by unfold rlS xS; decide)]; exact h9, by rw [p1.1.1 22 (by unfold rlS xS; decide)]; exact h10, by rw [p1.1.1 23 (by unfold rlS xS; decide)]; exact h11, rlsB_snoc (rlsB.ext hcc (by omega) hcode h12 (fun p pa pb j ja jb => p1.2.2.2.1 p pa pb j (by omega))) ?_, t0, o0, f0, c31, h17.mono (by omega) (p1.2.1 15 (by decide) (by decide) (by decide) (by decide) (by decide) (by decide)) (p1.2.1 16 (by decide) (by decide) (by decide) (by decide) (by decide) (by decide)), by rw [p1.2.1 19 (by decide) (by decide) (by decide) (by decide) (by decide) (by decide)]; exact h18⟩
                rw [show 200 * s + rlT qs + rels.length = 200 * s + (rlT qs + rels.length) by omega]
                obtain ⟨r1, ra, re, r2, r3, r4⟩ := hrb
                exact ⟨r1, ra, re, r2, by omega, r4⟩
              obtain ⟨hk1, hk2p⟩ := hTK k2 hk24 hL2.2.1
              have htq := hk1.q
              have e5 : G221.1 5 k2 = G.1 5 k2 := by rw [htl.1.1 5 (by unfold tlS xS; decide)]
              have e6 : G221.1 6 k2 = nI (tkT B n k2).2.2.1 := by rw [htl.1.1 6 (by unfold tlS xS; decide)]; exact hk2p
              obtain ⟨b, hb40, hkd, hbs, hb12, -, -, -, -, hb7, hb4, -, hb7v, -⟩ := tkk hk1
              by_cases h23 : b = 23
              · subst h23
                refine r_aload0 (pc := 224) C dX9_tellRule_224 ?_
                refine r_bipush (pc := 225) (v := nI 23) C dX9_tellRule_225 (by decide) ?_
                refine r_callVi (pc := 227) C rfl dX9_tellRule_227 kX9_269 gF9 jM (tX9_is Z.1 C.w t0 (by omega)) rfl rfl (Nat.le_of_ble_eq_true rfl) (by decide) (fun x227 G227 h227 => ?_)
                obtain ⟨rfl, h227b⟩ := h227
                have h227b := h227b.symm
                subst h227b
                rw [isB_t f0 (by rw [e5, hkd])]
                refine r_istore4 (pc := 230) C dX9_tellRule_230 rfl ?_
                refine r_iload4 (pc := 232) C dX9_tellRule_232 ?_
                refine r_if_ne (pc := 234) 246 C dX9_tellRule_234 (by decide) (fun c234 => ?_) (fun c234 => ?_)
                rotate_left
                · exact absurd c234 (by decide)
                refine r_iconst (pc := 246) (v := nI 1) C dX9_tellRule_246 (by decide) ?_
                refine r_goto (pc := 247) 251 C dX9_tellRule_247 (by decide) ?_
                refine r_istore3 (pc := 251) C dX9_tellRule_251 rfl ?_
                refine r_iload3 (pc := 252) C dX9_tellRule_252 ?_
                refine r_if_eq (pc := 253) 207 C dX9_tellRule_253 (by decide) (fun c253 => ?_) (fun c253 => ?_)
                · exact absurd c253 (by decide)
                refine r_aload0 (pc := 256) C dX9_tellRule_256 ?_
                refine r_callVv (pc := 257) C rfl dX9_tellRule_257 kX9_272 gF9 jM (tX9_next Z.1 C.w t0 (by omega)) rfl rfl (Nat.le_of_ble_eq_true rfl) (by decide) (fun G257 h257 => ?_)
                subst h257
                refine r_goto (pc := 260) 207 C dX9_tellRule_260 (by decide) ?_
                have hc7 : cN (tkT B n k2).1 = 7 := hb7.mp (Or.inl rfl)
                have hx7 : (tkT B n k2).2.1 = nI 1 := hb7v hc7
                have hlv := lv6_join hL2 hc7 hx7 (by decide) htq
                by_cases h400 : k2 = 400
                · have hR := hlv.1 h400
                  rw [nF_4 h400 f0]
                  refine r_iload3 (pc := 207) C dX9_tellRule_207 ?_
                  refine r_if_eq (pc := 208) 263 C dX9_tellRule_208 (by decide) (fun c208 => ?_) (fun c208 => ?_)
                  · exact absurd c208 (by decide)
                  refine r_aload0 (pc := 211) C dX9_tellRule_211 ?_
                  refine gX9_251 (pc := 212) C dX9_tellRule_212 ?_
                  refine r_eqi (y := nI 2) (by rw [sI_s, upd_o (by decide), sI_s, upd_s]) ?_
                  refine r_if_ne (pc := 215) 263 C dX9_tellRule_215 (by decide) (fun c215 => ?_) (fun c215 => ?_)
                  rotate_left
                  · exact absurd c215 (by decide)
                  exact finM k2 _ _ _ _ ((hm2.1.sl (by decide)).sl (by decide)) (by rw [sI_s, upd_o (by decide), sI_s, upd_o (by decide)]; exact t0) (by omega) ⟨2, by decide, by decide, by rw [sI_s, upd_o (by decide), sI_s, upd_s], hR.1, by rw [sI_s, upd_s, hR.2, ← e6]⟩
                · rw [nF_g h400]
                  have hrk : rk 1 = 1 := by decide +kernel
                  have hL3 := hlv.2 h400
                  rw [hrk] at hL3
                  obtain ⟨L3, hK3, hc3⟩ := cd_or hcd hrl
                  exact ih (401 - (k2 + 1)) (by omega) (k2 + 1) cd3 _ _ _ _ true _ _ rfl (by omega) hL3 hK3 (hc3 []) (hm2.nx hs4 hk24)
              · by_cases h24 : b = 24
                · subst h24
                  refine r_aload0 (pc := 224) C dX9_tellRule_224 ?_
                  refine r_bipush (pc := 225) (v := nI 23) C dX9_tellRule_225 (by decide) ?_
                  refine r_callVi (pc := 227) C rfl dX9_tellRule_227 kX9_269 gF9 jM (tX9_is Z.1 C.w t0 (by omega)) rfl rfl (Nat.le_of_ble_eq_true rfl) (by decide) (fun x227 G227 h227 => ?_)
                  obtain ⟨rfl, h227b⟩ := h227
                  have h227b := h227b.symm
                  subst h227b
                  rw [isB_f (by rw [e5, hkd]; exact nI_dj (by omega) (by omega) (by decide))]
                  refine r_istore4 (pc := 230) C dX9_tellRule_230 rfl ?_
                  refine r_iload4 (pc := 232) C dX9_tellRule_232 ?_
                  refine r_if_ne (pc := 234) 246 C dX9_tellRule_234 (by decide) (fun c234 => ?_) (fun c234 => ?_)
                  · exact absurd c234 (fun h => h rfl)
                  refine r_aload0 (pc := 237) C dX9_tellRule_237 ?_
                  refine r_bipush (pc := 238) (v := nI 24) C dX9_tellRule_238 (by decide) ?_
                  refine r_callVi (pc := 240) C rfl dX9_tellRule_240 kX9_269 gF9 jM (tX9_is Z.1 C.w t0 (by omega)) rfl rfl (Nat.le_of_ble_eq_true rfl) (by decide) (fun x240 G240 h240 => ?_)
                  obtain ⟨rfl, h240b⟩ := h240
                  have h240b := h240b.symm
                  subst h240b
                  rw [isB_t f0 (by rw [e5, hkd])]
                  refine r_if_eq (pc := 243) 250 C dX9_tellRule_243 (by decide) (fun c243 => ?_) (fun c243 => ?_)
                  · exact absurd c243 (by decide)
                  refine r_iconst (pc := 246) (v := nI 1) C dX9_tellRule_246 (by decide) ?_
                  refine r_goto (pc := 247) 251 C dX9_tellRule_247 (by decide) ?_
                  refine r_istore3 (pc := 251) C dX9_tellRule_251 rfl ?_
                  refine r_iload3 (pc := 252) C dX9_tellRule_252 ?_
                  refine r_if_eq (pc := 253) 207 C dX9_tellRule_253 (by decide) (fun c253 => ?_) (fun c253 => ?_)
                  · exact absurd c253 (by decide)
                  refine r_aload0 (pc := 256) C dX9_tellRule_256 ?_
                  refine r_callVv (pc := 257) C rfl dX9_tellRule_257 kX9_272 gF9 jM (tX9_next Z.1 C.w t0 (by omega)) rfl rfl (Nat.le_of_ble_eq_true rfl) (by decide) (fun G257 h257 => ?_)
                  subst h257
                  refine r_goto (pc := 260) 207 C dX9_tellRule_260 (by decide) ?_
                  have hc7 : cN (tkT B n k2).1 = 7 := hb7.mp (Or.inr rfl)
                  have hx7 : (tkT B n k2).2.1 = nI 2 := hb7v hc7
                  have hlv := lv6_join hL2 hc7 hx7 (by decide) htq
                  by_cases h400 : k2 = 400
                  · have hR := hlv.1 h400
                    rw [nF_4 h400 f0]
                    refine r_iload3 (pc := 207) C dX9_tellRule_207 ?_
                    refine r_if_eq (pc := 208) 263 C dX9_tellRule_208 (by decide) (fun c208 => ?_) (fun c208 => ?_)
                    · exact absurd c208 (by decide)
                    refine r_aload0 (pc := 211) C dX9_tellRule_211 ?_
                    refine gX9_251 (pc := 212) C dX9_tellRule_212 ?_
                    refine r_eqi (y := nI 2) (by rw [sI_s, upd_o (by decide), sI_s, upd_s]) ?_
                    refine r_if_ne (pc := 215) 263 C dX9_tellRule_215 (by decide) (fun c215 => ?_) (fun c215 => ?_)
                    rotate_left
                    · exact absurd c215 (by decide)
                    exact finM k2 _ _ _ _ ((hm2.1.sl (by decide)).sl (by decide)) (by rw [sI_s, upd_o (by decide), sI_s, upd_o (by decide)]; exact t0) (by omega) ⟨2, by decide, by decide, by rw [sI_s, upd_o (by decide), sI_s, upd_s], hR.1, by rw [sI_s, upd_s, hR.2, ← e6]⟩
                  · rw [nF_g h400]
                    have hrk : rk 2 = 2 := by decide +kernel
                    have hL3 := hlv.2 h400
                    rw [hrk] at hL3
                    obtain ⟨L3, hK3, hc3⟩ := cd_and hcd hrl
                    exact ih (401 - (k2 + 1)) (by omega) (k2 + 1) cd3 _ _ _ _ false _ _ rfl (by omega) hL3 hK3 (hc3 []) (hm2.nx hs4 hk24)
                · have h7 : cN (tkT B n k2).1 ≠ 7 := fun z => (hb7.mpr z).elim h23 h24
                  refine r_aload0 (pc := 224) C dX9_tellRule_224 ?_
                  refine r_bipush (pc := 225) (v := nI 23) C dX9_tellRule_225 (by decide) ?_
                  refine r_callVi (pc := 227) C rfl dX9_tellRule_227 kX9_269 gF9 jM (tX9_is Z.1 C.w t0 (by omega)) rfl rfl (Nat.le_of_ble_eq_true rfl) (by decide) (fun x227 G227 h227 => ?_)
                  obtain ⟨rfl, h227b⟩ := h227
                  have h227b := h227b.symm
                  subst h227b
                  rw [isB_f (by rw [e5, hkd]; exact nI_dj (by omega) (by omega) (by decide))]
                  refine r_istore4 (pc := 230) C dX9_tellRule_230 rfl ?_
                  refine r_iload4 (pc := 232) C dX9_tellRule_232 ?_
                  refine r_if_ne (pc := 234) 246 C dX9_tellRule_234 (by decide) (fun c234 => ?_) (fun c234 => ?_)
                  · exact absurd c234 (fun h => h rfl)
                  refine r_aload0 (pc := 237) C dX9_tellRule_237 ?_
                  refine r_bipush (pc := 238) (v := nI 24) C dX9_tellRule_238 (by decide) ?_
                  refine r_callVi (pc := 240) C rfl dX9_tellRule_240 kX9_269 gF9 jM (tX9_is Z.1 C.w t0 (by omega)) rfl rfl (Nat.le_of_ble_eq_true rfl) (by decide) (fun x240 G240 h240 => ?_)
                  obtain ⟨rfl, h240b⟩ := h240
                  have h240b := h240b.symm
                  subst h240b
                  rw [isB_f (by rw [e5, hkd]; exact nI_dj (by omega) (by omega) (by decide))]
                  refine r_if_eq (pc := 243) 250 C dX9_tellRule_243 (by decide) (fun c243 => ?_) (fun c243 => ?_)
                  rotate_left
                  · exact absurd c243 (fun h => h rfl)
                  refine r_iconst (pc := 250) (v := nI 0) C dX9_tellRule_250 (by decide) ?_
                  refine r_istore3 (pc := 251) C dX9_tellRule_251 rfl ?_
                  refine r_iload3 (pc := 252) C dX9_tellRule_252 ?_
                  refine r_if_eq (pc := 253) 207 C dX9_tellRule_253 (by decide) (fun c253 => ?_) (fun c253 => ?_)
                  rotate_left
                  · exact absurd c253 (fun h => h rfl)
                  refine r_iload3 (pc := 207) C dX9_tellRule_207 ?_
                  refine r_if_eq (pc := 208) 263 C dX9_tellRule_208 (by decide) (fun c208 => ?_) (fun c208 => ?_)
                  rotate_left
                  · exact absurd c208 (fun h => h rfl)
                  exact s4 a x k2 cd3 fw2 _ _ _ _ _ (by omega) hk24 hL2.2.1 hm2 (fun z => by
                    have hlv := lv6_semi hL2 z htq
                    obtain ⟨e1, e2⟩ := cd_end hcd hrl
                    refine ⟨hlv.1, fun h4 => ?_⟩
                    have hL3 := hlv.2 h4
                    rw [e1 []] at hL3
                    exact ⟨true, _, hL3, rfl, rfl, ⟨x, hx9, rfl⟩, Or.inr ⟨app_ne, e2⟩⟩) (fun z => lv6_bad hL2 hn9 (by omega) z)
        intro kk cd2 c opsP L rels o j2 G1 z1 z2 z3 z4 z5
        exact loop3 _ kk cd2 c opsP L rels o j2 G1 rfl z1 z2 z3 z4 z5
      have sC : ∀ (a : Bool) (x : Nat) (fw2 : Int32) (G1 : gS), x ≤ 9999 → Lv B n R (k + 2) (if a = true then 4 else 2, 0, rel, fw2, [], (a, nI x, []) :: rs) → tlF G G1 s ∧ pgL G1 s cd qs ∧ rs.length = qs.length ∧ G1.1 20 s = nI rs.length ∧ G1.1 25 s = nI (rlT qs) ∧ 3 * rlT qs ≤ k ∧ 500 * s ≤ cd ∧ cd ≤ 500 * s + k ∧ G1.1 21 (20 * s + rs.length) = bI a ∧ G1.1 22 (20 * s + rs.length) = nI x ∧ G1.1 100 11 = nI (k + 2) ∧ G1.1 100 12 = nI 0 ∧ G1.1 100 13 = 0 ∧ G1.1 100 31 = nI cd ∧ wsI G1 B n fw2 (k + 2) ∧ G1.1 100 19 = nI s → WW Z (qv (fun G' => tlP G G' B n R s k)) 154 [some (.ref (ad Z (100))), some (.int (nI (20 * s + rs.length))), some (.int (nI (k + 1))), none, none] [] G1 := by
        intro a x fw2 G1 hx9 hL2 hb
        obtain ⟨m1, m2, m3, m4, m5, m6, m7, m8, m9, m10, m11, m12, m13, m14, m15, m16⟩ := hb
        have hk24 := hL2.1
        obtain ⟨hk1, hk2p⟩ := hTK (k + 2) hk24 hL2.2.1
        have htq := hk1.q
        obtain ⟨b, hb40, hkd, hbs, hb12, -, -, -, hb6, -, hb4, -, -, -⟩ := tkk hk1
        by_cases h21 : b = 21
        · subst h21
          have hlv := lv2_if hL2 (hb6.mp rfl) htq
          cases a
          · refine r_aload0 (pc := 154) C dX9_tellRule_154 ?_
            refine gX9_52 (pc := 155) C dX9_tellRule_155 ?_
            refine r_iload1 (pc := 158) C dX9_tellRule_158 ?_
            refine r_aload0 (pc := 159) C dX9_tellRule_159 ?_
            refine gX9_58 (pc := 160) C dX9_tellRule_160 ?_
            refine r_aload0 (pc := 163) C dX9_tellRule_163 ?_
            refine gX9_281 (pc := 164) C dX9_tellRule_164 ?_
            refine r_eqi (y := nI s) m16 ?_
            refine r_iald (pc := 167) (_) C dX9_tellRule_167 aM25 (rfl) (by omega) ?_
            refine r_eqi (y := nI (rlT qs)) m5 ?_
            refine r_iast (pc := 168) (_) C dX9_tellRule_168 aM23 (rfl) (by omega) ?_
            have hm : tlM G (sI G1 23 (20 * s + rs.length) (nI (rlT qs))) B n s (k + 2) cd fw2 rs qs false x [] := by
              refine ⟨m1.wr (by decide) h20, pgL.ext (Nat.le_refl _) (by omega) (fun j _ _ => by rw [sI_o (by decide), sI_o (by decide)]; exact ⟨rfl, rfl⟩) m2 (fun p pa pb j ja jb => ?_) (fun p pa pb j _ _ => by rw [sI_o (by omega)]), m3, by rw [sI_o (by decide)]; exact m4, by rw [sI_o (by decide)]; exact m5, by simp; omega, m7, by omega, by rw [sI_o (by decide)]; exact m9, by rw [sI_o (by decide)]; exact m10, by rw [sI_s, upd_s], trivial, by rw [sI_o (by decide)]; exact m11, by rw [sI_o (by decide)]; exact m12, by rw [sI_o (by decide)]; exact m13, by rw [sI_o (by decide)]; exact m14, m15.mono (Nat.le_refl _) (by rw [sI_o (by decide)]) (by rw [sI_o (by decide)]), by rw [sI_o (by decide)]; exact m16⟩
              by_cases e : p = 23
              · subst e; rw [sI_s, upd_o (by omega)]
              · rw [sI_o e]
            have t0 : (sI G1 23 (20 * s + rs.length) (nI (rlT qs))).1 100 11 = nI (k + 2) := hm.2.2.2.2.2.2.2.2.2.2.2.2.1
            have f0 : (sI G1 23 (20 * s + rs.length) (nI (rlT qs))).1 100 13 = 0 := hm.2.2.2.2.2.2.2.2.2.2.2.2.2.2.1
            have e5 : (sI G1 23 (20 * s + rs.length) (nI (rlT qs))).1 5 (k + 2) = G.1 5 (k + 2) := by rw [hm.1.1.1 5 (by unfold tlS xS; decide)]
            have e6 : (sI G1 23 (20 * s + rs.length) (nI (rlT qs))).1 6 (k + 2) = nI (tkT B n (k + 2)).2.2.1 := by rw [hm.1.1.1 6 (by unfold tlS xS; decide)]; exact hk2p
            refine r_aload0 (pc := 169) C dX9_tellRule_169 ?_
            refine gX9_46 (pc := 170) C dX9_tellRule_170 ?_
            refine r_iload1 (pc := 173) C dX9_tellRule_173 ?_
            refine r_iald (pc := 174) (_) C dX9_tellRule_174 aM21 (rfl) (by omega) ?_
            refine r_eqi (y := bI false) (by rw [sI_o (by decide)]; exact m9) ?_
            refine r_iconst (pc := 175) (v := nI 1) C dX9_tellRule_175 (by decide) ?_
            refine r_icmp_eq (pc := 176) 188 C dX9_tellRule_176 (by decide) (fun c176 => ?_) (fun c176 => ?_)
            · exact absurd c176 (by decide)
            refine r_aload0 (pc := 179) C dX9_tellRule_179 ?_
            refine r_bipush (pc := 180) (v := nI 21) C dX9_tellRule_180 (by decide) ?_
            refine r_callVi (pc := 182) C rfl dX9_tellRule_182 kX9_269 gF9 jM (tX9_is Z.1 C.w t0 (by omega)) rfl rfl (Nat.le_of_ble_eq_true rfl) (by decide) (fun x182 G182 h182 => ?_)
            obtain ⟨rfl, h182b⟩ := h182
            have h182b := h182b.symm
            subst h182b
            rw [isB_t f0 (by rw [e5, hkd])]
            refine r_if_eq (pc := 185) 192 C dX9_tellRule_185 (by decide) (fun c185 => ?_) (fun c185 => ?_)
            · exact absurd c185 (by decide)
            refine r_iconst (pc := 188) (v := nI 1) C dX9_tellRule_188 (by decide) ?_
            refine r_goto (pc := 189) 193 C dX9_tellRule_189 (by decide) ?_
            refine r_istore3 (pc := 193) C dX9_tellRule_193 rfl ?_
            refine r_iload3 (pc := 194) C dX9_tellRule_194 ?_
            refine r_if_eq (pc := 195) 204 C dX9_tellRule_195 (by decide) (fun c195 => ?_) (fun c195 => ?_)
            · exact absurd c195 (by decide)
            refine r_aload0 (pc := 198) C dX9_tellRule_198 ?_
            refine r_bipush (pc := 199) (v := nI 21) C dX9_tellRule_199 (by decide) ?_
            refine r_callVv (pc := 201) C rfl dX9_tellRule_201 kX9_294 gF9 jM (tX9_must Z.1 C.w t0 (by omega)) rfl rfl (Nat.le_of_ble_eq_true rfl) (by decide) (fun G201 h201 => ?_)
            rw [isB_t f0 (by rw [e5, hkd]), if_pos rfl] at h201
            subst h201
            by_cases h400 : k + 2 = 400
            · have hR := hlv.1 h400
              rw [nF_4 h400 f0]
              refine r_iconst (pc := 204) (v := nI 1) C dX9_tellRule_204 (by decide) ?_
              refine r_istore4 (pc := 205) C dX9_tellRule_205 rfl ?_
              refine r_iload3 (pc := 207) C dX9_tellRule_207 ?_
              refine r_if_eq (pc := 208) 263 C dX9_tellRule_208 (by decide) (fun c208 => ?_) (fun c208 => ?_)
              · exact absurd c208 (by decide)
              refine r_aload0 (pc := 211) C dX9_tellRule_211 ?_
              refine gX9_251 (pc := 212) C dX9_tellRule_212 ?_
              refine r_eqi (y := nI 2) (by rw [sI_s, upd_o (by decide), sI_s, upd_s]) ?_
              refine r_if_ne (pc := 215) 263 C dX9_tellRule_215 (by decide) (fun c215 => ?_) (fun c215 => ?_)
              rotate_left
              · exact absurd c215 (by decide)
              exact finM (k + 2) _ _ _ _ ((hm.1.sl (by decide)).sl (by decide)) (by rw [sI_s, upd_o (by decide), sI_s, upd_o (by decide)]; exact t0) (by omega) ⟨2, by decide, by decide, by rw [sI_s, upd_o (by decide), sI_s, upd_s], hR.1, by rw [sI_s, upd_s, hR.2, ← e6]⟩
            · have hL3 := hlv.2 h400
              rw [nF_g h400]
              refine r_iconst (pc := 204) (v := nI 1) C dX9_tellRule_204 (by decide) ?_
              refine r_istore4 (pc := 205) C dX9_tellRule_205 rfl ?_
              exact s3 false x fw2 hx9 (k + 3) cd [] [] (fun _ => []) [] true _ _ (by omega) hL3 (fun v => rfl) (Or.inl ⟨rfl, rfl, rfl, fun _ => rfl⟩) (hm.nx hs4 hk24)
          · refine r_aload0 (pc := 154) C dX9_tellRule_154 ?_
            refine gX9_52 (pc := 155) C dX9_tellRule_155 ?_
            refine r_iload1 (pc := 158) C dX9_tellRule_158 ?_
            refine r_aload0 (pc := 159) C dX9_tellRule_159 ?_
            refine gX9_58 (pc := 160) C dX9_tellRule_160 ?_
            refine r_aload0 (pc := 163) C dX9_tellRule_163 ?_
            refine gX9_281 (pc := 164) C dX9_tellRule_164 ?_
            refine r_eqi (y := nI s) m16 ?_
            refine r_iald (pc := 167) (_) C dX9_tellRule_167 aM25 (rfl) (by omega) ?_
            refine r_eqi (y := nI (rlT qs)) m5 ?_
            refine r_iast (pc := 168) (_) C dX9_tellRule_168 aM23 (rfl) (by omega) ?_
            have hm : tlM G (sI G1 23 (20 * s + rs.length) (nI (rlT qs))) B n s (k + 2) cd fw2 rs qs true x [] := by
              refine ⟨m1.wr (by decide) h20, pgL.ext (Nat.le_refl _) (by omega) (fun j _ _ => by rw [sI_o (by decide), sI_o (by decide)]; exact ⟨rfl, rfl⟩) m2 (fun p pa pb j ja jb => ?_) (fun p pa pb j _ _ => by rw [sI_o (by omega)]), m3, by rw [sI_o (by decide)]; exact m4, by rw [sI_o (by decide)]; exact m5, by simp; omega, m7, by omega, by rw [sI_o (by decide)]; exact m9, by rw [sI_o (by decide)]; exact m10, by rw [sI_s, upd_s], trivial, by rw [sI_o (by decide)]; exact m11, by rw [sI_o (by decide)]; exact m12, by rw [sI_o (by decide)]; exact m13, by rw [sI_o (by decide)]; exact m14, m15.mono (Nat.le_refl _) (by rw [sI_o (by decide)]) (by rw [sI_o (by decide)]), by rw [sI_o (by decide)]; exact m16⟩
              by_cases e : p = 23
              · subst e; rw [sI_s, upd_o (by omega)]
              · rw [sI_o e]
            have t0 : (sI G1 23 (20 * s + rs.length) (nI (rlT qs))).1 100 11 = nI (k + 2) := hm.2.2.2.2.2.2.2.2.2.2.2.2.1
            have f0 : (sI G1 23 (20 * s + rs.length) (nI (rlT qs))).1 100 13 = 0 := hm.2.2.2.2.2.2.2.2.2.2.2.2.2.2.1
            have e5 : (sI G1 23 (20 * s + rs.length) (nI (rlT qs))).1 5 (k + 2) = G.1 5 (k + 2) := by rw [hm.1.1.1 5 (by unfold tlS xS; decide)]
            have e6 : (sI G1 23 (20 * s + rs.length) (nI (rlT qs))).1 6 (k + 2) = nI (tkT B n (k + 2)).2.2.1 := by rw [hm.1.1.1 6 (by unfold tlS xS; decide)]; exact hk2p
            refine r_aload0 (pc := 169) C dX9_tellRule_169 ?_
            refine gX9_46 (pc := 170) C dX9_tellRule_170 ?_
            refine r_iload1 (pc := 173) C dX9_tellRule_173 ?_
            refine r_iald (pc := 174) (_) C dX9_tellRule_174 aM21 (rfl) (by omega) ?_
            refine r_eqi (y := bI true) (by rw [sI_o (by decide)]; exact m9) ?_
            refine r_iconst (pc := 175) (v := nI 1) C dX9_tellRule_175 (by decide) ?_
            refine r_icmp_eq (pc := 176) 188 C dX9_tellRule_176 (by decide) (fun c176 => ?_) (fun c176 => ?_)
            rotate_left
            · exact absurd c176 (fun h => h rfl)
            refine r_iconst (pc := 188) (v := nI 1) C dX9_tellRule_188 (by decide) ?_
            refine r_goto (pc := 189) 193 C dX9_tellRule_189 (by decide) ?_
            refine r_istore3 (pc := 193) C dX9_tellRule_193 rfl ?_
            refine r_iload3 (pc := 194) C dX9_tellRule_194 ?_
            refine r_if_eq (pc := 195) 204 C dX9_tellRule_195 (by decide) (fun c195 => ?_) (fun c195 => ?_)
            · exact absurd c195 (by decide)
            refine r_aload0 (pc := 198) C dX9_tellRule_198 ?_
            refine r_bipush (pc := 199) (v := nI 21) C dX9_tellRule_199 (by decide) ?_
            refine r_callVv (pc := 201) C rfl dX9_tellRule_201 kX9_294 gF9 jM (tX9_must Z.1 C.w t0 (by omega)) rfl rfl (Nat.le_of_ble_eq_true rfl) (by decide) (fun G201 h201 => ?_)
            rw [isB_t f0 (by rw [e5, hkd]), if_pos rfl] at h201
            subst h201
            by_cases h400 : k + 2 = 400
            · have hR := hlv.1 h400
              rw [nF_4 h400 f0]
              refine r_iconst (pc := 204) (v := nI 1) C dX9_tellRule_204 (by decide) ?_
              refine r_istore4 (pc := 205) C dX9_tellRule_205 rfl ?_
              refine r_iload3 (pc := 207) C dX9_tellRule_207 ?_
              refine r_if_eq (pc := 208) 263 C dX9_tellRule_208 (by decide) (fun c208 => ?_) (fun c208 => ?_)
              · exact absurd c208 (by decide)
              refine r_aload0 (pc := 211) C dX9_tellRule_211 ?_
              refine gX9_251 (pc := 212) C dX9_tellRule_212 ?_
              refine r_eqi (y := nI 2) (by rw [sI_s, upd_o (by decide), sI_s, upd_s]) ?_
              refine r_if_ne (pc := 215) 263 C dX9_tellRule_215 (by decide) (fun c215 => ?_) (fun c215 => ?_)
              rotate_left
              · exact absurd c215 (by decide)
              exact finM (k + 2) _ _ _ _ ((hm.1.sl (by decide)).sl (by decide)) (by rw [sI_s, upd_o (by decide), sI_s, upd_o (by decide)]; exact t0) (by omega) ⟨2, by decide, by decide, by rw [sI_s, upd_o (by decide), sI_s, upd_s], hR.1, by rw [sI_s, upd_s, hR.2, ← e6]⟩
            · have hL3 := hlv.2 h400
              rw [nF_g h400]
              refine r_iconst (pc := 204) (v := nI 1) C dX9_tellRule_204 (by decide) ?_
              refine r_istore4 (pc := 205) C dX9_tellRule_205 rfl ?_
              exact s3 true x fw2 hx9 (k + 3) cd [] [] (fun _ => []) [] true _ _ (by omega) hL3 (fun v => rfl) (Or.inl ⟨rfl, rfl, rfl, fun _ => rfl⟩) (hm.nx hs4 hk24)
        · have h6 : cN (tkT B n (k + 2)).1 ≠ 6 := fun z => h21 (hb6.mpr z)
          cases a
          · have hL2 : Lv B n R (k + 2) (2, 0, rel, fw2, [], (false, nI x, []) :: rs) := hL2
            refine r_aload0 (pc := 154) C dX9_tellRule_154 ?_
            refine gX9_52 (pc := 155) C dX9_tellRule_155 ?_
            refine r_iload1 (pc := 158) C dX9_tellRule_158 ?_
            refine r_aload0 (pc := 159) C dX9_tellRule_159 ?_
            refine gX9_58 (pc := 160) C dX9_tellRule_160 ?_
            refine r_aload0 (pc := 163) C dX9_tellRule_163 ?_
            refine gX9_281 (pc := 164) C dX9_tellRule_164 ?_
            refine r_eqi (y := nI s) m16 ?_
            refine r_iald (pc := 167) (_) C dX9_tellRule_167 aM25 (rfl) (by omega) ?_
            refine r_eqi (y := nI (rlT qs)) m5 ?_
            refine r_iast (pc := 168) (_) C dX9_tellRule_168 aM23 (rfl) (by omega) ?_
            have hm : tlM G (sI G1 23 (20 * s + rs.length) (nI (rlT qs))) B n s (k + 2) cd fw2 rs qs false x [] := by
              refine ⟨m1.wr (by decide) h20, pgL.ext (Nat.le_refl _) (by omega) (fun j _ _ => by rw [sI_o (by decide), sI_o (by decide)]; exact ⟨rfl, rfl⟩) m2 (fun p pa pb j ja jb => ?_) (fun p pa pb j _ _ => by rw [sI_o (by omega)]), m3, by rw [sI_o (by decide)]; exact m4, by rw [sI_o (by decide)]; exact m5, by simp; omega, m7, by omega, by rw [sI_o (by decide)]; exact m9, by rw [sI_o (by decide)]; exact m10, by rw [sI_s, upd_s], trivial, by rw [sI_o (by decide)]; exact m11, by rw [sI_o (by decide)]; exact m12, by rw [sI_o (by decide)]; exact m13, by rw [sI_o (by decide)]; exact m14, m15.mono (Nat.le_refl _) (by rw [sI_o (by decide)]) (by rw [sI_o (by decide)]), by rw [sI_o (by decide)]; exact m16⟩
              by_cases e : p = 23
              · subst e; rw [sI_s, upd_o (by omega)]
              · rw [sI_o e]
            have t0 : (sI G1 23 (20 * s + rs.length) (nI (rlT qs))).1 100 11 = nI (k + 2) := hm.2.2.2.2.2.2.2.2.2.2.2.2.1
            have f0 : (sI G1 23 (20 * s + rs.length) (nI (rlT qs))).1 100 13 = 0 := hm.2.2.2.2.2.2.2.2.2.2.2.2.2.2.1
            have e5 : (sI G1 23 (20 * s + rs.length) (nI (rlT qs))).1 5 (k + 2) = G.1 5 (k + 2) := by rw [hm.1.1.1 5 (by unfold tlS xS; decide)]
            have e6 : (sI G1 23 (20 * s + rs.length) (nI (rlT qs))).1 6 (k + 2) = nI (tkT B n (k + 2)).2.2.1 := by rw [hm.1.1.1 6 (by unfold tlS xS; decide)]; exact hk2p
            refine r_aload0 (pc := 169) C dX9_tellRule_169 ?_
            refine gX9_46 (pc := 170) C dX9_tellRule_170 ?_
            refine r_iload1 (pc := 173) C dX9_tellRule_173 ?_
            refine r_iald (pc := 174) (_) C dX9_tellRule_174 aM21 (rfl) (by omega) ?_
            refine r_eqi (y := bI false) (by rw [sI_o (by decide)]; exact m9) ?_
            refine r_iconst (pc := 175) (v := nI 1) C dX9_tellRule_175 (by decide) ?_
            refine r_icmp_eq (pc := 176) 188 C dX9_tellRule_176 (by decide) (fun c176 => ?_) (fun c176 => ?_)
            · exact absurd c176 (by decide)
            refine r_aload0 (pc := 179) C dX9_tellRule_179 ?_
            refine r_bipush (pc := 180) (v := nI 21) C dX9_tellRule_180 (by decide) ?_
            refine r_callVi (pc := 182) C rfl dX9_tellRule_182 kX9_269 gF9 jM (tX9_is Z.1 C.w t0 (by omega)) rfl rfl (Nat.le_of_ble_eq_true rfl) (by decide) (fun x182 G182 h182 => ?_)
            obtain ⟨rfl, h182b⟩ := h182
            have h182b := h182b.symm
            subst h182b
            rw [isB_f (by rw [e5, hkd]; exact nI_dj (by omega) (by omega) (by decide))]
            refine r_if_eq (pc := 185) 192 C dX9_tellRule_185 (by decide) (fun c185 => ?_) (fun c185 => ?_)
            rotate_left
            · exact absurd c185 (fun h => h rfl)
            refine r_iconst (pc := 192) (v := nI 0) C dX9_tellRule_192 (by decide) ?_
            refine r_istore3 (pc := 193) C dX9_tellRule_193 rfl ?_
            refine r_iload3 (pc := 194) C dX9_tellRule_194 ?_
            refine r_if_eq (pc := 195) 204 C dX9_tellRule_195 (by decide) (fun c195 => ?_) (fun c195 => ?_)
            rotate_left
            · exact absurd c195 (fun h => h rfl)
            refine r_iconst (pc := 204) (v := nI 1) C dX9_tellRule_204 (by decide) ?_
            refine r_istore4 (pc := 205) C dX9_tellRule_205 rfl ?_
            refine r_iload3 (pc := 207) C dX9_tellRule_207 ?_
            refine r_if_eq (pc := 208) 263 C dX9_tellRule_208 (by decide) (fun c208 => ?_) (fun c208 => ?_)
            rotate_left
            · exact absurd c208 (fun h => h rfl)
            exact s4 false x (k + 2) cd fw2 [] _ _ _ _ (by omega) hk24 hL2.2.1 hm (fun z => by
              have hlv := lv2_semi hL2 z htq
              exact ⟨hlv.1, fun h4 => ⟨false, [], hlv.2 h4, rfl, rfl, ⟨x, hx9, rfl⟩, Or.inl ⟨rfl, rfl⟩⟩⟩) (fun z => lv2_bad hL2 (by omega) z)
          · have hL2 : Lv B n R (k + 2) (4, 0, rel, fw2, [], (true, nI x, []) :: rs) := hL2
            have hR := lv4_bad hL2 h6
            refine r_aload0 (pc := 154) C dX9_tellRule_154 ?_
            refine gX9_52 (pc := 155) C dX9_tellRule_155 ?_
            refine r_iload1 (pc := 158) C dX9_tellRule_158 ?_
            refine r_aload0 (pc := 159) C dX9_tellRule_159 ?_
            refine gX9_58 (pc := 160) C dX9_tellRule_160 ?_
            refine r_aload0 (pc := 163) C dX9_tellRule_163 ?_
            refine gX9_281 (pc := 164) C dX9_tellRule_164 ?_
            refine r_eqi (y := nI s) m16 ?_
            refine r_iald (pc := 167) (_) C dX9_tellRule_167 aM25 (rfl) (by omega) ?_
            refine r_eqi (y := nI (rlT qs)) m5 ?_
            refine r_iast (pc := 168) (_) C dX9_tellRule_168 aM23 (rfl) (by omega) ?_
            have hm : tlM G (sI G1 23 (20 * s + rs.length) (nI (rlT qs))) B n s (k + 2) cd fw2 rs qs true x [] := by
              refine ⟨m1.wr (by decide) h20, pgL.ext (Nat.le_refl _) (by omega) (fun j _ _ => by rw [sI_o (by decide), sI_o (by decide)]; exact ⟨rfl, rfl⟩) m2 (fun p pa pb j ja jb => ?_) (fun p pa pb j _ _ => by rw [sI_o (by omega)]), m3, by rw [sI_o (by decide)]; exact m4, by rw [sI_o (by decide)]; exact m5, by simp; omega, m7, by omega, by rw [sI_o (by decide)]; exact m9, by rw [sI_o (by decide)]; exact m10, by rw [sI_s, upd_s], trivial, by rw [sI_o (by decide)]; exact m11, by rw [sI_o (by decide)]; exact m12, by rw [sI_o (by decide)]; exact m13, by rw [sI_o (by decide)]; exact m14, m15.mono (Nat.le_refl _) (by rw [sI_o (by decide)]) (by rw [sI_o (by decide)]), by rw [sI_o (by decide)]; exact m16⟩
              by_cases e : p = 23
              · subst e; rw [sI_s, upd_o (by omega)]
              · rw [sI_o e]
            have t0 : (sI G1 23 (20 * s + rs.length) (nI (rlT qs))).1 100 11 = nI (k + 2) := hm.2.2.2.2.2.2.2.2.2.2.2.2.1
            have f0 : (sI G1 23 (20 * s + rs.length) (nI (rlT qs))).1 100 13 = 0 := hm.2.2.2.2.2.2.2.2.2.2.2.2.2.2.1
            have e5 : (sI G1 23 (20 * s + rs.length) (nI (rlT qs))).1 5 (k + 2) = G.1 5 (k + 2) := by rw [hm.1.1.1 5 (by unfold tlS xS; decide)]
            have e6 : (sI G1 23 (20 * s + rs.length) (nI (rlT qs))).1 6 (k + 2) = nI (tkT B n (k + 2)).2.2.1 := by rw [hm.1.1.1 6 (by unfold tlS xS; decide)]; exact hk2p
            refine r_aload0 (pc := 169) C dX9_tellRule_169 ?_
            refine gX9_46 (pc := 170) C dX9_tellRule_170 ?_
            refine r_iload1 (pc := 173) C dX9_tellRule_173 ?_
            refine r_iald (pc := 174) (_) C dX9_tellRule_174 aM21 (rfl) (by omega) ?_
            refine r_eqi (y := bI true) (by rw [sI_o (by decide)]; exact m9) ?_
            refine r_iconst (pc := 175) (v := nI 1) C dX9_tellRule_175 (by decide) ?_
            refine r_icmp_eq (pc := 176) 188 C dX9_tellRule_176 (by decide) (fun c176 => ?_) (fun c176 => ?_)
            rotate_left
            · exact absurd c176 (fun h => h rfl)
            refine r_iconst (pc := 188) (v := nI 1) C dX9_tellRule_188 (by decide) ?_
            refine r_goto (pc := 189) 193 C dX9_tellRule_189 (by decide) ?_
            refine r_istore3 (pc := 193) C dX9_tellRule_193 rfl ?_
            refine r_iload3 (pc := 194) C dX9_tellRule_194 ?_
            refine r_if_eq (pc := 195) 204 C dX9_tellRule_195 (by decide) (fun c195 => ?_) (fun c195 => ?_)
            · exact absurd c195 (by decide)
            refine r_aload0 (pc := 198) C dX9_tellRule_198 ?_
            refine r_bipush (pc := 199) (v := nI 21) C dX9_tellRule_199 (by decide) ?_
            refine r_callVv (pc := 201) C rfl dX9_tellRule_201 kX9_294 gF9 jM (tX9_must Z.1 C.w t0 (by omega)) rfl rfl (Nat.le_of_ble_eq_true rfl) (by decide) (fun G201 h201 => ?_)
            rw [isB_f (by rw [e5, hkd]; exact nI_dj (by omega) (by omega) (by decide)), if_neg (by decide), fF_0 f0] at h201
            subst h201
            refine r_iconst (pc := 204) (v := nI 1) C dX9_tellRule_204 (by decide) ?_
            refine r_istore4 (pc := 205) C dX9_tellRule_205 rfl ?_
            refine r_iload3 (pc := 207) C dX9_tellRule_207 ?_
            refine r_if_eq (pc := 208) 263 C dX9_tellRule_208 (by decide) (fun c208 => ?_) (fun c208 => ?_)
            · exact absurd c208 (by decide)
            refine r_aload0 (pc := 211) C dX9_tellRule_211 ?_
            refine gX9_251 (pc := 212) C dX9_tellRule_212 ?_
            refine r_eqi (y := nI 1) (by rw [sI_s, upd_o (by decide), sI_s, upd_s]) ?_
            refine r_if_ne (pc := 215) 263 C dX9_tellRule_215 (by decide) (fun c215 => ?_) (fun c215 => ?_)
            rotate_left
            · exact absurd c215 (by decide)
            exact finM (k + 2) _ _ _ _ ((hm.1.sl (by decide)).sl (by decide)) (by rw [sI_s, upd_o (by decide), sI_s, upd_o (by decide)]; exact t0) (by omega) ⟨1, by decide, by decide, by rw [sI_s, upd_o (by decide), sI_s, upd_s], hR.1, by rw [sI_s, upd_s, hR.2, ← e6]⟩
      have finN : ∀ (t : Nat) (G1 : gS), tlF G G1 s → G1.1 100 11 = nI t → t ≤ 401 → Ft G1 R → WW Z (qv (fun G' => tlP G G' B n R s k)) 95 [some (.ref (ad Z (100))), some (.int (nI (20 * s + rs.length))), none, none, none] [] G1 := by
        intro t G1 hf ht ht4 hft
        refine r_aload0 (pc := 95) C dX9_tellRule_95 ?_
        refine gX9_254 (pc := 96) C dX9_tellRule_96 ?_
        refine r_eqi ht ?_
        refine r_istore2 (pc := 99) C dX9_tellRule_99 rfl ?_
        refine r_aload0 (pc := 100) C dX9_tellRule_100 ?_
        refine r_iconst (pc := 101) (v := nI 2) C dX9_tellRule_101 (by decide) ?_
        refine r_callVv (pc := 102) C rfl dX9_tellRule_102 kX9_294 gF9 jM (tX9_must Z.1 C.w ht (by omega)) rfl rfl (Nat.le_of_ble_eq_true rfl) (by decide) (fun G102 h102 => ?_)
        rw [isB_ff hft.pos.2, if_neg (by decide), fF_p hft.pos.1] at h102
        subst h102
        refine r_aload0 (pc := 105) C dX9_tellRule_105 ?_
        refine gX9_251 (pc := 106) C dX9_tellRule_106 ?_
        refine r_if_le (pc := 109) 113 C dX9_tellRule_109 (by decide) (fun c109 => ?_) (fun c109 => ?_)
        · exact absurd c109 (Int32.not_le.mpr hft.pos.1)
        exact r_return (pc := 112) C dX9_tellRule_112 (⟨hf, Or.inl ⟨t, ht, ht4, hft⟩⟩)
      have sB : ∀ (a : Bool) (G1 : gS), Lv B n R (k + 1) (if a = true then 3 else 1, 0, rel, fw, [], (a, 0, []) :: rs) → tlF G G1 s ∧ pgL G1 s cd qs ∧ rs.length = qs.length ∧ G1.1 20 s = nI rs.length ∧ G1.1 25 s = nI (rlT qs) ∧ 3 * rlT qs ≤ k ∧ 500 * s ≤ cd ∧ cd ≤ 500 * s + k ∧ G1.1 21 (20 * s + rs.length) = bI a ∧ G1.1 100 11 = nI (k + 1) ∧ G1.1 100 12 = nI 0 ∧ G1.1 100 13 = 0 ∧ G1.1 100 31 = nI cd ∧ wsI G1 B n fw (k + 1) ∧ G1.1 100 19 = nI s → WW Z (qv (fun G' => tlP G G' B n R s k)) 95 [some (.ref (ad Z (100))), some (.int (nI (20 * s + rs.length))), none, none, none] [] G1 := by
        intro a G1 hL1 hb
        obtain ⟨m1, m2, m3, m4, m5, m6, m7, m8, m9, m10, m11, m12, m13, m14, m15⟩ := hb
        have hk14 := hL1.1
        obtain ⟨hk1, hk2p⟩ := hTK (k + 1) hk14 hL1.2.1
        have htq := hk1.q
        have e5 : G1.1 5 (k + 1) = G.1 5 (k + 1) := by rw [m1.1.1 5 (by unfold tlS xS; decide)]
        have e6 : G1.1 6 (k + 1) = nI (tkT B n (k + 1)).2.2.1 := by rw [m1.1.1 6 (by unfold tlS xS; decide)]; exact hk2p
        obtain ⟨b, hb40, hkd, hbs, hb12, -, -, hb2, -, -, -, -, -, hb2v⟩ := tkk hk1
        refine r_aload0 (pc := 95) C dX9_tellRule_95 ?_
        refine gX9_254 (pc := 96) C dX9_tellRule_96 ?_
        refine r_eqi m10 ?_
        refine r_istore2 (pc := 99) C dX9_tellRule_99 rfl ?_
        refine r_aload0 (pc := 100) C dX9_tellRule_100 ?_
        refine r_iconst (pc := 101) (v := nI 2) C dX9_tellRule_101 (by decide) ?_
        refine r_callVv (pc := 102) C rfl dX9_tellRule_102 kX9_294 gF9 jM (tX9_must Z.1 C.w m10 (by omega)) rfl rfl (Nat.le_of_ble_eq_true rfl) (by decide) (fun G102 h102 => ?_)
        by_cases h2 : cN (tkT B n (k + 1)).1 = 2
        · obtain ⟨x, hx9, hxv, hvl⟩ := hb2v h2
          have hlv := lv1 hL1 h2 hxv htq
          rw [isB_t m12 (by rw [e5, hkd, hb2.mpr h2]), if_pos rfl] at h102
          subst h102
          by_cases h400 : k + 1 = 400
          · have hR := hlv.1 h400
            rw [nF_4 h400 m12]
            refine r_aload0 (pc := 105) C dX9_tellRule_105 ?_
            refine gX9_251 (pc := 106) C dX9_tellRule_106 ?_
            refine r_eqi (y := nI 2) (by rw [sI_s, upd_o (by decide), sI_s, upd_s]) ?_
            refine r_if_le (pc := 109) 113 C dX9_tellRule_109 (by decide) (fun c109 => ?_) (fun c109 => ?_)
            · exact absurd c109 (by decide)
            exact r_return (pc := 112) C dX9_tellRule_112 (⟨(m1.sl (by decide)).sl (by decide), Or.inl ⟨k + 1, by rw [sI_s, upd_o (by decide), sI_s, upd_o (by decide)]; exact m10, by omega, ⟨2, by decide, by decide, by rw [sI_s, upd_o (by decide), sI_s, upd_s], hR.1, by rw [sI_s, upd_s, hR.2, ← e6]⟩⟩⟩)
          · have hL2 := hlv.2 h400
            rw [nF_g h400]
            refine r_aload0 (pc := 105) C dX9_tellRule_105 ?_
            refine gX9_251 (pc := 106) C dX9_tellRule_106 ?_
            refine r_eqi (y := 0) (by rw [sI_s, upd_o (by decide)]; exact m12) ?_
            refine r_if_le (pc := 109) 113 C dX9_tellRule_109 (by decide) (fun c109 => ?_) (fun c109 => ?_)
            rotate_left
            · exact absurd c109 (fun h => h (by decide))
            refine r_aload0 (pc := 113) C dX9_tellRule_113 ?_
            refine gX9_49 (pc := 114) C dX9_tellRule_114 ?_
            refine r_iload1 (pc := 117) C dX9_tellRule_117 ?_
            refine r_aload0 (pc := 118) C dX9_tellRule_118 ?_
            refine gX9_27 (pc := 119) C dX9_tellRule_119 ?_
            refine r_iload2 (pc := 122) C dX9_tellRule_122 ?_
            refine r_iald (pc := 123) (_) C dX9_tellRule_123 aM7 (rfl) (by omega) ?_
            refine r_eqi (y := nI x) (by rw [sI_o (by decide), m1.1.1 7 (by unfold tlS xS; decide)]; exact hvl) ?_
            refine r_iast (pc := 124) (_) C dX9_tellRule_124 aM22 (rfl) (by omega) ?_
            refine r_aload0 (pc := 125) C dX9_tellRule_125 ?_
            refine gX9_27 (pc := 126) C dX9_tellRule_126 ?_
            refine r_iload2 (pc := 129) C dX9_tellRule_129 ?_
            refine r_iald (pc := 130) (_) C dX9_tellRule_130 aM7 (rfl) (by omega) ?_
            refine r_eqi (y := nI x) (by rw [sI_o (by decide), sI_o (by decide), m1.1.1 7 (by unfold tlS xS; decide)]; exact hvl) ?_
            refine r_aload0 (pc := 131) C dX9_tellRule_131 ?_
            refine gX9_46 (pc := 132) C dX9_tellRule_132 ?_
            refine r_iload1 (pc := 135) C dX9_tellRule_135 ?_
            refine r_iald (pc := 136) (_) C dX9_tellRule_136 aM21 (rfl) (by omega) ?_
            refine r_eqi (y := bI a) (by rw [sI_o (by decide), sI_o (by decide)]; exact m9) ?_
            refine r_if_ne (pc := 137) 144 C dX9_tellRule_137 (by decide) (fun c137 => ?_) (fun c137 => ?_)
            · have ha : a = true := bI_n.mp c137
              subst ha
              refine r_iconst (pc := 144) (v := nI 3) C dX9_tellRule_144 (by decide) ?_
              refine r_icmp_le (pc := 145) 154 C dX9_tellRule_145 (by decide) (fun c145 => ?_) (fun c145 => ?_)
              · have hbb : tlF G (sI (sI G1 100 11 (nI (k + 2))) 22 (20 * s + rs.length) (nI x)) s ∧ pgL (sI (sI G1 100 11 (nI (k + 2))) 22 (20 * s + rs.length) (nI x)) s cd qs := ⟨(m1.sl (by decide)).wr (by decide) h20, pgL.ext (Nat.le_refl _) (by omega) (fun j _ _ => by rw [sI_o (by decide), sI_o (by decide), sI_o (by decide), sI_o (by decide)]; exact ⟨rfl, rfl⟩) m2 (fun q qa qb j ja jb => by
                  by_cases e : q = 22
                  · subst e; rw [sI_s, upd_o (by omega), sI_o (by decide)]
                  · rw [sI_o e, sI_o (by omega)]) (fun q qa qb j _ _ => by rw [sI_o (by omega), sI_o (by omega)])⟩
                have hnw : nI x < (if true = true then nI 4 else nI 6) := by
                  have := (nI_leI (by omega) (by decide)).mp c145
                  exact nI_lt (b := 4) (by omega) (by decide)
                rw [show (if ¬ nI x < (if true = true then nI 4 else nI 6) ∧ fw = -1 then nI (tkT B n (k + 1)).2.2.1 else fw) = fw from if_neg (fun z => z.1 hnw)] at hL2
                exact sC true x fw _ hx9 hL2 ⟨hbb.1, hbb.2, m3, by rw [sI_o (by decide), sI_o (by decide)]; exact m4, by rw [sI_o (by decide), sI_o (by decide)]; exact m5, m6, m7, m8, by rw [sI_o (by decide), sI_o (by decide)]; exact m9, by rw [sI_s, upd_s], by rw [sI_o (by decide), sI_s, upd_s], by rw [sI_o (by decide), sI_s, upd_o (by decide)]; exact m11, by rw [sI_o (by decide), sI_s, upd_o (by decide)]; exact m12, by rw [sI_o (by decide), sI_s, upd_o (by decide)]; exact m13, m14.mono (by omega) (by rw [sI_o (by decide), sI_s, upd_o (by decide)]) (by rw [sI_o (by decide), sI_s, upd_o (by decide)]), by rw [sI_o (by decide), sI_s, upd_o (by decide)]; exact m15⟩
              · refine r_aload0 (pc := 148) C dX9_tellRule_148 ?_
                refine r_iconst (pc := 149) (v := nI 5) C dX9_tellRule_149 (by decide) ?_
                refine r_iload2 (pc := 150) C dX9_tellRule_150 ?_
                refine r_callVv (pc := 151) C rfl dX9_tellRule_151 kX9_297 gF9 jM (tX9_wrong Z.1 C.w (j := k + 1) (by omega) (by rw [sI_o (by decide), sI_s, upd_o (by decide)]; exact m12) (by
              rw [sI_o (by decide), sI_s, upd_o (by decide), upd_o (by decide), sI_o (by decide), sI_o (by decide)]
              rcases m14 with ⟨w1, w2⟩ | ⟨j, w1, w2, w3, w4⟩
              · exact Or.inl w2
              · right
                rw [w4, w2, e6]
                exact nI_lt (pl_lt (by omega) hL1.2.1) (by have := pl_n B n (k + 1); omega))) rfl rfl (Nat.le_of_ble_eq_true rfl) (by decide) (fun G151 h151 => ?_)
                subst h151
                have hbb : tlF G (sI (sI G1 100 11 (nI (k + 2))) 22 (20 * s + rs.length) (nI x)) s ∧ pgL (sI (sI G1 100 11 (nI (k + 2))) 22 (20 * s + rs.length) (nI x)) s cd qs := ⟨(m1.sl (by decide)).wr (by decide) h20, pgL.ext (Nat.le_refl _) (by omega) (fun j _ _ => by rw [sI_o (by decide), sI_o (by decide), sI_o (by decide), sI_o (by decide)]; exact ⟨rfl, rfl⟩) m2 (fun q qa qb j ja jb => by
                  by_cases e : q = 22
                  · subst e; rw [sI_s, upd_o (by omega), sI_o (by decide)]
                  · rw [sI_o e, sI_o (by omega)]) (fun q qa qb j _ _ => by rw [sI_o (by omega), sI_o (by omega)])⟩
                have hnw : ¬ nI x < (if true = true then nI 4 else nI 6) := fun z => c145 (nI_le (by have := (nI_ltI (a := x) (b := 4) (by omega) (by decide)).mp z; omega) (by decide))
                have e15 : (sI (sI G1 100 11 (nI (k + 2))) 22 (20 * s + rs.length) (nI x)).1 100 15 = G1.1 100 15 := by rw [sI_o (by decide), sI_s, upd_o (by decide)]
                rcases m14 with ⟨w1, w2⟩ | ⟨j, w1, w2, w3, w4⟩
                · rw [show (if ¬ nI x < (if true = true then nI 4 else nI 6) ∧ fw = -1 then nI (tkT B n (k + 1)).2.2.1 else fw) = nI (tkT B n (k + 1)).2.2.1 from if_pos ⟨hnw, w1⟩] at hL2
                  rw [if_pos (by rw [e15]; exact w2)]
                  refine sC true x (nI (tkT B n (k + 1)).2.2.1) _ hx9 hL2 ⟨(hbb.1.sl (by decide)).sl (by decide), pgL.s (by omega) (pgL.s (by omega) hbb.2), ?_⟩
                  refine ⟨m3, ?_, ?_, m6, m7, m8, ?_, ?_, ?_, ?_, ?_, ?_, Or.inr ⟨k + 1, by omega, rfl, ?_, ?_⟩, ?_⟩
                  · rw [sI_o (by decide), sI_o (by decide), sI_o (by decide), sI_o (by decide)]; exact m4
                  · rw [sI_o (by decide), sI_o (by decide), sI_o (by decide), sI_o (by decide)]; exact m5
                  · rw [sI_o (by decide), sI_o (by decide), sI_o (by decide), sI_o (by decide)]; exact m9
                  · rw [sI_o (by decide), sI_o (by decide), sI_s, upd_s]
                  · rw [sI_s, upd_o (by decide), sI_s, upd_o (by decide), sI_o (by decide), sI_s, upd_s]
                  · rw [sI_s, upd_o (by decide), sI_s, upd_o (by decide), sI_o (by decide), sI_s, upd_o (by decide)]; exact m11
                  · rw [sI_s, upd_o (by decide), sI_s, upd_o (by decide), sI_o (by decide), sI_s, upd_o (by decide)]; exact m12
                  · rw [sI_s, upd_o (by decide), sI_s, upd_o (by decide), sI_o (by decide), sI_s, upd_o (by decide)]; exact m13
                  · rw [sI_s, upd_o (by decide), sI_s, upd_s]
                  · rw [sI_s, upd_s, sI_o (by decide), sI_o (by decide)]; exact e6
                  · rw [sI_s, upd_o (by decide), sI_s, upd_o (by decide), sI_o (by decide), sI_s, upd_o (by decide)]; exact m15
                · have hfw : ¬ fw = -1 := by rw [w2]; exact nI_m1 (by have := pl_n B n j; omega)
                  rw [show (if ¬ nI x < (if true = true then nI 4 else nI 6) ∧ fw = -1 then nI (tkT B n (k + 1)).2.2.1 else fw) = fw from if_neg (fun z => hfw z.2)] at hL2
                  rw [if_neg (by rw [e15, w3]; decide)]
                  exact sC true x fw _ hx9 hL2 ⟨hbb.1, hbb.2, m3, by rw [sI_o (by decide), sI_o (by decide)]; exact m4, by rw [sI_o (by decide), sI_o (by decide)]; exact m5, m6, m7, m8, by rw [sI_o (by decide), sI_o (by decide)]; exact m9, by rw [sI_s, upd_s], by rw [sI_o (by decide), sI_s, upd_s], by rw [sI_o (by decide), sI_s, upd_o (by decide)]; exact m11, by rw [sI_o (by decide), sI_s, upd_o (by decide)]; exact m12, by rw [sI_o (by decide), sI_s, upd_o (by decide)]; exact m13, Or.inr ⟨j, by omega, w2, by rw [e15]; exact w3, by rw [sI_o (by decide), sI_s, upd_o (by decide)]; exact w4⟩, by rw [sI_o (by decide), sI_s, upd_o (by decide)]; exact m15⟩
            · have ha : a = false := bI_z.mp c137
              subst ha
              refine r_iconst (pc := 140) (v := nI 5) C dX9_tellRule_140 (by decide) ?_
              refine r_goto (pc := 141) 145 C dX9_tellRule_141 (by decide) ?_
              refine r_icmp_le (pc := 145) 154 C dX9_tellRule_145 (by decide) (fun c145 => ?_) (fun c145 => ?_)
              · have hbb : tlF G (sI (sI G1 100 11 (nI (k + 2))) 22 (20 * s + rs.length) (nI x)) s ∧ pgL (sI (sI G1 100 11 (nI (k + 2))) 22 (20 * s + rs.length) (nI x)) s cd qs := ⟨(m1.sl (by decide)).wr (by decide) h20, pgL.ext (Nat.le_refl _) (by omega) (fun j _ _ => by rw [sI_o (by decide), sI_o (by decide), sI_o (by decide), sI_o (by decide)]; exact ⟨rfl, rfl⟩) m2 (fun q qa qb j ja jb => by
                  by_cases e : q = 22
                  · subst e; rw [sI_s, upd_o (by omega), sI_o (by decide)]
                  · rw [sI_o e, sI_o (by omega)]) (fun q qa qb j _ _ => by rw [sI_o (by omega), sI_o (by omega)])⟩
                have hnw : nI x < (if false = true then nI 4 else nI 6) := by
                  have := (nI_leI (by omega) (by decide)).mp c145
                  exact nI_lt (b := 6) (by omega) (by decide)
                rw [show (if ¬ nI x < (if false = true then nI 4 else nI 6) ∧ fw = -1 then nI (tkT B n (k + 1)).2.2.1 else fw) = fw from if_neg (fun z => z.1 hnw)] at hL2
                exact sC false x fw _ hx9 hL2 ⟨hbb.1, hbb.2, m3, by rw [sI_o (by decide), sI_o (by decide)]; exact m4, by rw [sI_o (by decide), sI_o (by decide)]; exact m5, m6, m7, m8, by rw [sI_o (by decide), sI_o (by decide)]; exact m9, by rw [sI_s, upd_s], by rw [sI_o (by decide), sI_s, upd_s], by rw [sI_o (by decide), sI_s, upd_o (by decide)]; exact m11, by rw [sI_o (by decide), sI_s, upd_o (by decide)]; exact m12, by rw [sI_o (by decide), sI_s, upd_o (by decide)]; exact m13, m14.mono (by omega) (by rw [sI_o (by decide), sI_s, upd_o (by decide)]) (by rw [sI_o (by decide), sI_s, upd_o (by decide)]), by rw [sI_o (by decide), sI_s, upd_o (by decide)]; exact m15⟩
              · refine r_aload0 (pc := 148) C dX9_tellRule_148 ?_
                refine r_iconst (pc := 149) (v := nI 5) C dX9_tellRule_149 (by decide) ?_
                refine r_iload2 (pc := 150) C dX9_tellRule_150 ?_
                refine r_callVv (pc := 151) C rfl dX9_tellRule_151 kX9_297 gF9 jM (tX9_wrong Z.1 C.w (j := k + 1) (by omega) (by rw [sI_o (by decide), sI_s, upd_o (by decide)]; exact m12) (by
              rw [sI_o (by decide), sI_s, upd_o (by decide), upd_o (by decide), sI_o (by decide), sI_o (by decide)]
              rcases m14 with ⟨w1, w2⟩ | ⟨j, w1, w2, w3, w4⟩
              · exact Or.inl w2
              · right
                rw [w4, w2, e6]
                exact nI_lt (pl_lt (by omega) hL1.2.1) (by have := pl_n B n (k + 1); omega))) rfl rfl (Nat.le_of_ble_eq_true rfl) (by decide) (fun G151 h151 => ?_)
                subst h151
                have hbb : tlF G (sI (sI G1 100 11 (nI (k + 2))) 22 (20 * s + rs.length) (nI x)) s ∧ pgL (sI (sI G1 100 11 (nI (k + 2))) 22 (20 * s + rs.length) (nI x)) s cd qs := ⟨(m1.sl (by decide)).wr (by decide) h20, pgL.ext (Nat.le_refl _) (by omega) (fun j _ _ => by rw [sI_o (by decide), sI_o (by decide), sI_o (by decide), sI_o (by decide)]; exact ⟨rfl, rfl⟩) m2 (fun q qa qb j ja jb => by
                  by_cases e : q = 22
                  · subst e; rw [sI_s, upd_o (by omega), sI_o (by decide)]
                  · rw [sI_o e, sI_o (by omega)]) (fun q qa qb j _ _ => by rw [sI_o (by omega), sI_o (by omega)])⟩
                have hnw : ¬ nI x < (if false = true then nI 4 else nI 6) := fun z => c145 (nI_le (by have := (nI_ltI (a := x) (b := 6) (by omega) (by decide)).mp z; omega) (by decide))
                have e15 : (sI (sI G1 100 11 (nI (k + 2))) 22 (20 * s + rs.length) (nI x)).1 100 15 = G1.1 100 15 := by rw [sI_o (by decide), sI_s, upd_o (by decide)]
                rcases m14 with ⟨w1, w2⟩ | ⟨j, w1, w2, w3, w4⟩
                · rw [show (if ¬ nI x < (if false = true then nI 4 else nI 6) ∧ fw = -1 then nI (tkT B n (k + 1)).2.2.1 else fw) = nI (tkT B n (k + 1)).2.2.1 from if_pos ⟨hnw, w1⟩] at hL2
                  rw [if_pos (by rw [e15]; exact w2)]
                  refine sC false x (nI (tkT B n (k + 1)).2.2.1) _ hx9 hL2 ⟨(hbb.1.sl (by decide)).sl (by decide), pgL.s (by omega) (pgL.s (by omega) hbb.2), ?_⟩
                  refine ⟨m3, ?_, ?_, m6, m7, m8, ?_, ?_, ?_, ?_, ?_, ?_, Or.inr ⟨k + 1, by omega, rfl, ?_, ?_⟩, ?_⟩
                  · rw [sI_o (by decide), sI_o (by decide), sI_o (by decide), sI_o (by decide)]; exact m4
                  · rw [sI_o (by decide), sI_o (by decide), sI_o (by decide), sI_o (by decide)]; exact m5
                  · rw [sI_o (by decide), sI_o (by decide), sI_o (by decide), sI_o (by decide)]; exact m9
                  · rw [sI_o (by decide), sI_o (by decide), sI_s, upd_s]
                  · rw [sI_s, upd_o (by decide), sI_s, upd_o (by decide), sI_o (by decide), sI_s, upd_s]
                  · rw [sI_s, upd_o (by decide), sI_s, upd_o (by decide), sI_o (by decide), sI_s, upd_o (by decide)]; exact m11
                  · rw [sI_s, upd_o (by decide), sI_s, upd_o (by decide), sI_o (by decide), sI_s, upd_o (by decide)]; exact m12
                  · rw [sI_s, upd_o (by decide), sI_s, upd_o (by decide), sI_o (by decide), sI_s, upd_o (by decide)]; exact m13
                  · rw [sI_s, upd_o (by decide), sI_s, upd_s]
                  · rw [sI_s, upd_s, sI_o (by decide), sI_o (by decide)]; exact e6
                  · rw [sI_s, upd_o (by decide), sI_s, upd_o (by decide), sI_o (by decide), sI_s, upd_o (by decide)]; exact m15
                · have hfw : ¬ fw = -1 := by rw [w2]; exact nI_m1 (by have := pl_n B n j; omega)
                  rw [show (if ¬ nI x < (if false = true then nI 4 else nI 6) ∧ fw = -1 then nI (tkT B n (k + 1)).2.2.1 else fw) = fw from if_neg (fun z => hfw z.2)] at hL2
                  rw [if_neg (by rw [e15, w3]; decide)]
                  exact sC false x fw _ hx9 hL2 ⟨hbb.1, hbb.2, m3, by rw [sI_o (by decide), sI_o (by decide)]; exact m4, by rw [sI_o (by decide), sI_o (by decide)]; exact m5, m6, m7, m8, by rw [sI_o (by decide), sI_o (by decide)]; exact m9, by rw [sI_s, upd_s], by rw [sI_o (by decide), sI_s, upd_s], by rw [sI_o (by decide), sI_s, upd_o (by decide)]; exact m11, by rw [sI_o (by decide), sI_s, upd_o (by decide)]; exact m12, by rw [sI_o (by decide), sI_s, upd_o (by decide)]; exact m13, Or.inr ⟨j, by omega, w2, by rw [e15]; exact w3, by rw [sI_o (by decide), sI_s, upd_o (by decide)]; exact w4⟩, by rw [sI_o (by decide), sI_s, upd_o (by decide)]; exact m15⟩
        · rw [isB_f (by rw [e5, hkd]; exact nI_dj (fun z => h2 (hb2.mp z)) (by omega) (by decide)), if_neg (by decide), fF_0 m12] at h102
          subst h102
          have hR := lv1_bad hL1 h2
          refine r_aload0 (pc := 105) C dX9_tellRule_105 ?_
          refine gX9_251 (pc := 106) C dX9_tellRule_106 ?_
          refine r_eqi (y := nI 1) (by rw [sI_s, upd_o (by decide), sI_s, upd_s]) ?_
          refine r_if_le (pc := 109) 113 C dX9_tellRule_109 (by decide) (fun c109 => ?_) (fun c109 => ?_)
          · exact absurd c109 (by decide)
          exact r_return (pc := 112) C dX9_tellRule_112 (⟨(m1.sl (by decide)).sl (by decide), Or.inl ⟨k + 1, by rw [sI_s, upd_o (by decide), sI_s, upd_o (by decide)]; exact m10, by omega, ⟨1, by decide, by decide, by rw [sI_s, upd_o (by decide), sI_s, upd_s], hR.1, by rw [sI_s, upd_s, hR.2, ← e6]⟩⟩⟩)
      refine r_aload0 (pc := 45) C dX9_tellRule_45 ?_
      refine gX9_251 (pc := 46) C dX9_tellRule_46 ?_
      refine r_eqi i11 ?_
      refine r_if_le (pc := 49) 53 C dX9_tellRule_49 (by decide) (fun c49 => ?_) (fun c49 => ?_)
      rotate_left
      · exact absurd c49 (fun h => h (by decide))
      refine r_bipush (pc := 53) (v := nI 20) C dX9_tellRule_53 (by decide) ?_
      refine r_aload0 (pc := 55) C dX9_tellRule_55 ?_
      refine gX9_281 (pc := 56) C dX9_tellRule_56 ?_
      refine r_eqi i14 ?_
      refine r_imul (pc := 59) C dX9_tellRule_59 ?_
      refine r_eqi (pk_mul 20 s) ?_
      refine r_aload0 (pc := 60) C dX9_tellRule_60 ?_
      refine gX9_43 (pc := 61) C dX9_tellRule_61 ?_
      refine r_aload0 (pc := 64) C dX9_tellRule_64 ?_
      refine gX9_281 (pc := 65) C dX9_tellRule_65 ?_
      refine r_eqi i14 ?_
      refine r_iald (pc := 68) (_) C dX9_tellRule_68 aM20 (rfl) (by omega) ?_
      refine r_eqi i4 ?_
      refine r_iadd (pc := 69) C dX9_tellRule_69 ?_
      refine r_eqi (nI_add _ _) ?_
      refine r_istore1 (pc := 70) C dX9_tellRule_70 rfl ?_
      refine r_aload0 (pc := 71) C dX9_tellRule_71 ?_
      refine gX9_46 (pc := 72) C dX9_tellRule_72 ?_
      refine r_iload1 (pc := 75) C dX9_tellRule_75 ?_
      refine r_aload0 (pc := 76) C dX9_tellRule_76 ?_
      refine r_bipush (pc := 77) (v := nI 20) C dX9_tellRule_77 (by decide) ?_
      refine r_callVi (pc := 79) C rfl dX9_tellRule_79 kX9_269 gF9 jM (tX9_is Z.1 C.w i9 (by omega)) rfl rfl (Nat.le_of_ble_eq_true rfl) (by decide) (fun x79 G79 h79 => ?_)
      obtain ⟨rfl, h79b⟩ := h79
      have h79b := h79b.symm
      subst h79b
      rw [isB_t i11 hkd]
      refine r_if_eq (pc := 82) 89 C dX9_tellRule_82 (by decide) (fun c82 => ?_) (fun c82 => ?_)
      · exact absurd c82 (by decide)
      refine r_iconst (pc := 85) (v := nI 0) C dX9_tellRule_85 (by decide) ?_
      refine r_goto (pc := 86) 90 C dX9_tellRule_86 (by decide) ?_
      refine r_eqi (y := bI false) rfl ?_
      refine r_iast (pc := 90) (_) C dX9_tellRule_90 aM21 (rfl) (by omega) ?_
      refine r_aload0 (pc := 91) C dX9_tellRule_91 ?_
      refine r_callVv (pc := 92) C rfl dX9_tellRule_92 kX9_272 gF9 jM (tX9_next Z.1 C.w (t := k) (by rw [sI_o (by decide)]; exact i9) (by omega)) rfl rfl (Nat.le_of_ble_eq_true rfl) (by decide) (fun G92 h92 => ?_)
      subst h92
      have htl : tlF G (sI G 21 (20 * s + rs.length) (bI false)) s := tlF.refl.wr (by decide) h20
      have hpg : pgL (sI G 21 (20 * s + rs.length) (bI false)) s cd qs := pgL.ext (Nat.le_refl _) (by omega) (fun j _ _ => by rw [sI_o (by decide), sI_o (by decide)]; exact ⟨rfl, rfl⟩) i3 (fun q qa qb j ja jb => by
        by_cases e : q = 21
        · subst e; rw [sI_s, upd_o (by omega)]
        · rw [sI_o e]) (fun q qa qb j _ _ => by rw [sI_o (by omega)])
      by_cases h400 : k = 400
      · have hR := hlv.1 (Or.inr h400)
        have e62 : (sI G 21 (20 * s + rs.length) (bI false)).1 6 k = nI (tkT B n k).2.2.1 := by rw [sI_o (by decide)]; exact e6
        rw [nF_4 h400 (by rw [sI_o (by decide)]; exact i11)]
        exact finN k _ ((htl.sl (by decide)).sl (by decide)) (by rw [sI_s, upd_o (by decide), sI_s, upd_o (by decide), sI_o (by decide)]; exact i9) (by omega) ⟨2, by decide, by decide, by rw [sI_s, upd_o (by decide), sI_s, upd_s], hR.1, by rw [sI_s, upd_s, hR.2, ← e62]⟩
      · rw [nF_g h400]
        refine sB false _ (hlv.2 h20 h400) ⟨htl.sl (by decide), pgL.s (by omega) hpg, hlen, ?_, ?_, i6, i7, i8, ?_, ?_, ?_, ?_, ?_, ?_, ?_⟩
        · rw [sI_o (by decide), sI_o (by decide)]; exact i4
        · rw [sI_o (by decide), sI_o (by decide)]; exact i5
        · rw [sI_o (by decide), sI_s, upd_s]
        · rw [sI_s, upd_s]
        · rw [sI_s, upd_o (by decide), sI_o (by decide)]; exact i10
        · rw [sI_s, upd_o (by decide), sI_o (by decide)]; exact i11
        · rw [sI_s, upd_o (by decide), sI_o (by decide)]; exact i12
        · exact i13.mono (by omega) (by rw [sI_s, upd_o (by decide), sI_o (by decide)]) (by rw [sI_s, upd_o (by decide), sI_o (by decide)])
        · rw [sI_s, upd_o (by decide), sI_o (by decide)]; exact i14
    · have h20 : rs.length = 20 := (nI_eq (by have h1 : rs.length ≤ 20 := i1.2.2.1.2.2.2.1; omega) (by decide)).mp c37
      have hR := hlv.1 (Or.inl (by omega))
      refine r_aload0 (pc := 40) C dX9_tellRule_40 ?_
      refine r_iconst (pc := 41) (v := nI 2) C dX9_tellRule_41 (by decide) ?_
      refine r_callVv (pc := 42) C rfl dX9_tellRule_42 kX9_266 gF9 jM (tX9_fail Z.1 C.w i9 (by omega)) rfl rfl (Nat.le_of_ble_eq_true rfl) (by decide) (fun G42 h42 => ?_)
      rw [fF_0 i11] at h42
      subst h42
      refine r_aload0 (pc := 45) C dX9_tellRule_45 ?_
      refine gX9_251 (pc := 46) C dX9_tellRule_46 ?_
      refine r_eqi (y := nI 2) (by rw [sI_s, upd_o (by decide), sI_s, upd_s]) ?_
      refine r_if_le (pc := 49) 53 C dX9_tellRule_49 (by decide) (fun c49 => ?_) (fun c49 => ?_)
      · exact absurd c49 (by decide)
      exact r_return (pc := 52) C dX9_tellRule_52 (⟨(tlF.refl.sl (by decide)).sl (by decide), Or.inl ⟨k, by rw [sI_s, upd_o (by decide), sI_s, upd_o (by decide)]; exact i9, by omega, ⟨2, by decide, by decide, by rw [sI_s, upd_o (by decide), sI_s, upd_s], hR.1, by rw [sI_s, upd_s, hR.2, ← e6]⟩⟩⟩)
  · by_cases h22k : b = 22
    · subst h22k
      have hlv := lv0 (a := true) i1 rfl (Or.inr ⟨hb22.mp rfl, rfl⟩) htq
      refine r_aload0 (pc := 0) C dX9_tellRule_0 ?_
      refine r_bipush (pc := 1) (v := nI 20) C dX9_tellRule_1 (by decide) ?_
      refine r_callVi (pc := 3) C rfl dX9_tellRule_3 kX9_269 gF9 jM (tX9_is Z.1 C.w i9 (by omega)) rfl rfl (Nat.le_of_ble_eq_true rfl) (by decide) (fun x3 G3 h3 => ?_)
      obtain ⟨rfl, h3b⟩ := h3
      have h3b := h3b.symm
      subst h3b
      rw [isB_f (by rw [hkd]; exact nI_dj (by omega) (by omega) (by decide))]
      refine r_if_ne (pc := 6) 26 C dX9_tellRule_6 (by decide) (fun c6 => ?_) (fun c6 => ?_)
      · exact absurd c6 (fun h => h rfl)
      refine r_aload0 (pc := 9) C dX9_tellRule_9 ?_
      refine r_bipush (pc := 10) (v := nI 22) C dX9_tellRule_10 (by decide) ?_
      refine r_callVi (pc := 12) C rfl dX9_tellRule_12 kX9_269 gF9 jM (tX9_is Z.1 C.w i9 (by omega)) rfl rfl (Nat.le_of_ble_eq_true rfl) (by decide) (fun x12 G12 h12 => ?_)
      obtain ⟨rfl, h12b⟩ := h12
      have h12b := h12b.symm
      subst h12b
      rw [isB_t i11 hkd]
      refine r_if_ne (pc := 15) 26 C dX9_tellRule_15 (by decide) (fun c15 => ?_) (fun c15 => ?_)
      rotate_left
      · exact absurd c15 (by decide)
      refine r_aload0 (pc := 26) C dX9_tellRule_26 ?_
      refine gX9_43 (pc := 27) C dX9_tellRule_27 ?_
      refine r_aload0 (pc := 30) C dX9_tellRule_30 ?_
      refine gX9_281 (pc := 31) C dX9_tellRule_31 ?_
      refine r_eqi i14 ?_
      refine r_iald (pc := 34) (_) C dX9_tellRule_34 aM20 (rfl) (by omega) ?_
      refine r_eqi i4 ?_
      refine r_bipush (pc := 35) (v := nI 20) C dX9_tellRule_35 (by decide) ?_
      refine r_icmp_ne (pc := 37) 45 C dX9_tellRule_37 (by decide) (fun c37 => ?_) (fun c37 => ?_)
      · have h20 : rs.length < 20 := by
          have h1 : rs.length ≤ 20 := i1.2.2.1.2.2.2.1
          have h2 : rs.length ≠ 20 := fun z => c37 (by rw [z])
          omega
        have s5 : ∀ (a : Bool) (x k2 cd2 : Nat) (fw2 : Int32) (rel2 : Bool) (c : List Int32) (rels : List rl) (o2 o3 o4 : Option Value) (G1 : gS), k < k2 → Lv B n R k2 (0, 0, rel2, fw2, [], (a, nI x, c) :: rs) → rqE (a, nI x, c) (a, nI x, rels) → tlM G G1 B n s k2 cd2 fw2 rs qs a x rels → WW Z (qv (fun G' => tlP G G' B n R s k)) 276 [some (.ref (ad Z (100))), some (.int (nI (20 * s + rs.length))), o2, o3, o4] [] G1 := by
          intro a x k2 cd2 fw2 rel2 c rels o2 o3 o4 G1 hk2 hL2 hq hm
          refine r_aload0 (pc := 276) C dX9_tellRule_276 ?_
          refine gX9_55 (pc := 277) C dX9_tellRule_277 ?_
          refine r_iload1 (pc := 280) C dX9_tellRule_280 ?_
          refine r_aload0 (pc := 281) C dX9_tellRule_281 ?_
          refine gX9_58 (pc := 282) C dX9_tellRule_282 ?_
          refine r_aload0 (pc := 285) C dX9_tellRule_285 ?_
          refine gX9_281 (pc := 286) C dX9_tellRule_286 ?_
          refine r_eqi (y := nI s) hm.2.2.2.2.2.2.2.2.2.2.2.2.2.2.2.2.2 ?_
          refine r_iald (pc := 289) (_) C dX9_tellRule_289 aM25 (rfl) (by omega) ?_
          refine r_eqi (y := nI (rlT qs + rels.length)) hm.2.2.2.2.1 ?_
          refine r_iast (pc := 290) (_) C dX9_tellRule_290 aM24 (rfl) (by omega) ?_
          refine r_aload0 (pc := 291) C dX9_tellRule_291 ?_
          refine gX9_43 (pc := 292) C dX9_tellRule_292 ?_
          refine r_aload0 (pc := 295) C dX9_tellRule_295 ?_
          refine gX9_281 (pc := 296) C dX9_tellRule_296 ?_
          refine r_eqi (y := nI s) (by rw [sI_o (by decide)]; exact hm.2.2.2.2.2.2.2.2.2.2.2.2.2.2.2.2.2) ?_
          refine r_dup2 (pc := 299) C dX9_tellRule_299 rfl rfl ?_
          refine r_iald (pc := 300) (_) C dX9_tellRule_300 aM20 (rfl) (by omega) ?_
          refine r_eqi (y := nI rs.length) (by rw [sI_o (by decide)]; exact hm.2.2.2.1) ?_
          refine r_iconst (pc := 301) (v := nI 1) C dX9_tellRule_301 (by decide) ?_
          refine r_iadd (pc := 302) C dX9_tellRule_302 ?_
          refine r_eqi (nI_add _ 1) ?_
          refine r_iast (pc := 303) (_) C dX9_tellRule_303 aM20 (rfl) (by omega) ?_
          exact r_return (pc := 304) C dX9_tellRule_304 (by
            obtain ⟨h1, h2, h3, h4, h5, h6, h7, h8, h9, h10, h11, h12, h13, h14, h15, h16, h17, h18⟩ := hm
            have hk24 := hL2.1
            refine ⟨(h1.wr (by decide) h20).w2 (by decide), Or.inr ⟨k2, (a, nI x, c) :: rs, (a, nI x, rels) :: qs, cd2, fw2, rel2, hk2, hL2, ⟨hq, i2⟩, ⟨?_, ?_, ?_, ?_, ?_, ?_⟩, ?_, ?_, by show 3 * (rels.length + rlT qs) ≤ k2; omega, h7, h8, ?_, ?_, ?_, ?_, ?_, ?_⟩⟩
            · rw [sI_o (by decide), sI_o (by decide), ← h3]; exact h9
            · rw [sI_o (by decide), sI_o (by decide), ← h3]; exact h10
            · rw [sI_o (by decide), sI_o (by decide), ← h3]; exact h11
            · rw [sI_o (by decide), sI_s, ← h3, upd_s]
            · refine rlsB.ext (Nat.le_refl _) (by omega) (fun j _ _ => ?_) h12 (fun p pa pb j _ _ => ?_)
              · rw [sI_o (by decide), sI_o (by decide), sI_o (by decide), sI_o (by decide)]; exact ⟨rfl, rfl⟩
              · rw [sI_o (by omega), sI_o (by omega)]
            · refine pgL.ext (Nat.le_refl _) (by omega) (fun j _ _ => ?_) h2 (fun p pa pb j ja jb => ?_) (fun p pa pb j _ _ => ?_)
              · rw [sI_o (by decide), sI_o (by decide), sI_o (by decide), sI_o (by decide)]; exact ⟨rfl, rfl⟩
              · rw [sI_o (by omega)]
                by_cases e : p = 24
                · subst e; rw [sI_s, upd_o (by omega)]
                · rw [sI_o e]
              · rw [sI_o (by omega), sI_o (by omega)]
            · rw [sI_s, upd_s]; rfl
            · rw [sI_o (by decide), sI_o (by decide), h5, rlT, Nat.add_comm]
            · rw [sI_o (by decide), sI_o (by decide)]; exact h13
            · rw [sI_o (by decide), sI_o (by decide)]; exact h14
            · rw [sI_o (by decide), sI_o (by decide)]; exact h15
            · rw [sI_o (by decide), sI_o (by decide)]; exact h16
            · exact h17.mono (Nat.le_refl _) (by rw [sI_o (by decide), sI_o (by decide)]) (by rw [sI_o (by decide), sI_o (by decide)])
            · rw [sI_o (by decide), sI_o (by decide)]; exact h18)
        have finM : ∀ (t : Nat) (o2 o3 o4 : Option Value) (G1 : gS), tlF G G1 s → G1.1 100 11 = nI t → t ≤ 401 → Ft G1 R → WW Z (qv (fun G' => tlP G G' B n R s k)) 263 [some (.ref (ad Z (100))), some (.int (nI (20 * s + rs.length))), o2, o3, o4] [] G1 := by
          intro t o2 o3 o4 G1 hf ht ht4 hft
          refine r_aload0 (pc := 263) C dX9_tellRule_263 ?_
          refine r_iconst (pc := 264) (v := nI 4) C dX9_tellRule_264 (by decide) ?_
          refine r_callVv (pc := 265) C rfl dX9_tellRule_265 kX9_294 gF9 jM (tX9_must Z.1 C.w ht (by omega)) rfl rfl (Nat.le_of_ble_eq_true rfl) (by decide) (fun G265 h265 => ?_)
          rw [isB_ff hft.pos.2, if_neg (by decide), fF_p hft.pos.1] at h265
          subst h265
          refine r_aload0 (pc := 268) C dX9_tellRule_268 ?_
          refine gX9_251 (pc := 269) C dX9_tellRule_269 ?_
          refine r_if_le (pc := 272) 276 C dX9_tellRule_272 (by decide) (fun c272 => ?_) (fun c272 => ?_)
          · exact absurd c272 (Int32.not_le.mpr hft.pos.1)
          exact r_return (pc := 275) C dX9_tellRule_275 (⟨hf, Or.inl ⟨t, ht, ht4, hft⟩⟩)
        have s4 : ∀ (a : Bool) (x k2 cd2 : Nat) (fw2 : Int32) (rels : List rl) (o2 o3 o4 : Option Value) (G1 : gS), k < k2 → k2 ≤ 400 → (∀ i, i < k2 → (tkT B n i).1 ≠ nI 0) → tlM G G1 B n s k2 cd2 fw2 rs qs a x rels → (cN (tkT B n k2).1 = 12 → (k2 = 400 → R.1 = nI 2 ∧ R.2.1 = nI (tkT B n k2).2.2.1) ∧ (k2 ≠ 400 → ∃ rel2 c, Lv B n R (k2 + 1) (0, 0, rel2, fw2, [], (a, nI x, c) :: rs) ∧ rqE (a, nI x, c) (a, nI x, rels))) → (cN (tkT B n k2).1 ≠ 12 → R.1 = nI 1 ∧ R.2.1 = nI (tkT B n k2).2.2.1) → WW Z (qv (fun G' => tlP G G' B n R s k)) 263 [some (.ref (ad Z (100))), some (.int (nI (20 * s + rs.length))), o2, o3, o4] [] G1 := by
          intro a x k2 cd2 fw2 rels o2 o3 o4 G1 hk2 hk24 hpz hm hsemi hbad
          have t0 := hm.2.2.2.2.2.2.2.2.2.2.2.2.1
          have f0 : G1.1 100 13 = 0 := hm.2.2.2.2.2.2.2.2.2.2.2.2.2.2.1
          obtain ⟨hk1, hk2p⟩ := hTK k2 hk24 hpz
          have e5 : G1.1 5 k2 = G.1 5 k2 := by rw [hm.1.1.1 5 (by unfold tlS xS; decide)]
          have e6 : G1.1 6 k2 = nI (tkT B n k2).2.2.1 := by rw [hm.1.1.1 6 (by unfold tlS xS; decide)]; exact hk2p
          obtain ⟨b, hb40, hkd, hbs, -, -, -, -, -, -, hb4, -, -, -⟩ := tkk hk1
          refine r_aload0 (pc := 263) C dX9_tellRule_263 ?_
          refine r_iconst (pc := 264) (v := nI 4) C dX9_tellRule_264 (by decide) ?_
          refine r_callVv (pc := 265) C rfl dX9_tellRule_265 kX9_294 gF9 jM (tX9_must Z.1 C.w t0 (by omega)) rfl rfl (Nat.le_of_ble_eq_true rfl) (by decide) (fun G265 h265 => ?_)
          by_cases h4 : cN (tkT B n k2).1 = 12
          · rw [isB_t f0 (by rw [e5, hkd, hb4.mpr h4]), if_pos rfl] at h265
            subst h265
            by_cases h400 : k2 = 400
            · have hR := (hsemi h4).1 h400
              rw [nF_4 h400 f0]
              refine r_aload0 (pc := 268) C dX9_tellRule_268 ?_
              refine gX9_251 (pc := 269) C dX9_tellRule_269 ?_
              refine r_eqi (y := nI 2) (by rw [sI_s, upd_o (by decide), sI_s, upd_s]) ?_
              refine r_if_le (pc := 272) 276 C dX9_tellRule_272 (by decide) (fun c272 => ?_) (fun c272 => ?_)
              · exact absurd c272 (by decide)
              exact r_return (pc := 275) C dX9_tellRule_275 (⟨(hm.1.sl (by decide)).sl (by decide), Or.inl ⟨k2, by rw [sI_s, upd_o (by decide), sI_s, upd_o (by decide)]; exact t0, by omega, ⟨2, by decide, by decide, by rw [sI_s, upd_o (by decide), sI_s, upd_s], hR.1, by rw [sI_s, upd_s, hR.2, ← e6]⟩⟩⟩)
            · obtain ⟨rel2, c, hL2, hq⟩ := (hsemi h4).2 h400
              rw [nF_g h400]
              refine r_aload0 (pc := 268) C dX9_tellRule_268 ?_
              refine gX9_251 (pc := 269) C dX9_tellRule_269 ?_
              refine r_eqi (y := 0) (by rw [sI_s, upd_o (by decide)]; exact f0) ?_
              refine r_if_le (pc := 272) 276 C dX9_tellRule_272 (by decide) (fun c272 => ?_) (fun c272 => ?_)
              rotate_left
              · exact absurd c272 (fun h => h (by decide))
              exact s5 a x (k2 + 1) cd2 fw2 rel2 c rels _ _ _ _ (by omega) hL2 hq (hm.nx hs4 hk24)
          · rw [isB_f (by rw [e5, hkd]; exact nI_dj (fun z => h4 (hb4.mp z)) (by omega) (by decide)), if_neg (by decide), fF_0 f0] at h265
            subst h265
            have hR := hbad h4
            refine r_aload0 (pc := 268) C dX9_tellRule_268 ?_
            refine gX9_251 (pc := 269) C dX9_tellRule_269 ?_
            refine r_eqi (y := nI 1) (by rw [sI_s, upd_o (by decide), sI_s, upd_s]) ?_
            refine r_if_le (pc := 272) 276 C dX9_tellRule_272 (by decide) (fun c272 => ?_) (fun c272 => ?_)
            · exact absurd c272 (by decide)
            exact r_return (pc := 275) C dX9_tellRule_275 (⟨(hm.1.sl (by decide)).sl (by decide), Or.inl ⟨k2, by rw [sI_s, upd_o (by decide), sI_s, upd_o (by decide)]; exact t0, by omega, ⟨1, by decide, by decide, by rw [sI_s, upd_o (by decide), sI_s, upd_s], hR.1, by rw [sI_s, upd_s, hR.2, ← e6]⟩⟩⟩)
        have s3 : ∀ (a : Bool) (x : Nat) (fw2 : Int32) (hx9 : x ≤ 9999) (kk cd2 : Nat) (c : List Int32) (opsP : List Nat) (L : (Nat → Int32) → List Int32) (rels : List rl) (o : Bool) (j2 : Int32) (G1 : gS), k < kk → Lv B n R kk (5, 0, false, fw2, opsP, (a, nI x, c) :: rs) → (∀ v, cK v c (L v)) → cdS opsP L rels o → tlM G G1 B n s kk cd2 fw2 rs qs a x rels → WW Z (qv (fun G' => tlP G G' B n R s k)) 207 [some (.ref (ad Z (100))), some (.int (nI (20 * s + rs.length))), some (.int (j2)), some (.int (nI 1)), some (.int (bI o))] [] G1 := by
          intro a x fw2 hx9
          have loop3 : ∀ (k0 : Nat) (kk cd2 : Nat) (c : List Int32) (opsP : List Nat) (L : (Nat → Int32) → List Int32) (rels : List rl) (o : Bool) (j2 : Int32) (G1 : gS), k0 = 401 - kk → k < kk → Lv B n R kk (5, 0, false, fw2, opsP, (a, nI x, c) :: rs) → (∀ v, cK v c (L v)) → cdS opsP L rels o → tlM G G1 B n s kk cd2 fw2 rs qs a x rels → WW Z (qv (fun G' => tlP G G' B n R s k)) 207 [some (.ref (ad Z (100))), some (.int (nI (20 * s + rs.length))), some (.int (j2)), some (.int (nI 1)), some (.int (bI o))] [] G1 := by
            intro k0
            induction k0 using Nat.strongRecOn with
            | _ k0 ih =>
              intro kk cd2 c opsP L rels o j2 G1 hk0 hkk1 hL1 hK hcd hm
              have hkk4 := hL1.1
              refine r_iload3 (pc := 207) C dX9_tellRule_207 ?_
              refine r_if_eq (pc := 208) 263 C dX9_tellRule_208 (by decide) (fun c208 => ?_) (fun c208 => ?_)
              · exact absurd c208 (by decide)
              refine r_aload0 (pc := 211) C dX9_tellRule_211 ?_
              refine gX9_251 (pc := 212) C dX9_tellRule_212 ?_
              refine r_eqi (y := 0) hm.2.2.2.2.2.2.2.2.2.2.2.2.2.2.1 ?_
              refine r_if_ne (pc := 215) 263 C dX9_tellRule_215 (by decide) (fun c215 => ?_) (fun c215 => ?_)
              · exact absurd c215 (fun h => h rfl)
              refine r_aload0 (pc := 218) C dX9_tellRule_218 ?_
              refine r_iload4 (pc := 219) C dX9_tellRule_219 ?_
              refine r_callVv (pc := 221) C rfl dX9_tellRule_221 kX9_301 gF9 jM (tX9_relation Z.1 C.w (kb := kk) (cd := cd2) (rl := rlT qs + rels.length) (L0 := L) (rels := rels) (hTK.ex (hm.1.1.1 5 (by unfold tlS xS; decide)) (hm.1.1.1 6 (by unfold tlS xS; decide)) (hm.1.1.1 7 (by unfold tlS xS; decide))) hL1 hK hcd hs4 hm.2.2.2.2.2.2.2.1 hm.2.2.2.2.2.1 hm.2.2.2.2.2.2.2.2.2.2.2.2.2.2.2.2.2 hm.2.2.2.2.1 hm.2.2.2.2.2.2.2.2.2.2.2.2.1 hm.2.2.2.2.2.2.2.2.2.2.2.2.2.1 hm.2.2.2.2.2.2.2.2.2.2.2.2.2.2.1 hm.2.2.2.2.2.2.2.2.2.2.2.2.2.2.2.1) rfl rfl (Nat.le_of_ble_eq_true rfl) (by decide) (fun G221 h221 => ?_)
              obtain ⟨p1, q1⟩ := h221
              have htl : tlF G G221 s := hm.1.rl p1 hm.2.2.2.2.2.2.1 hm.2.2.2.2.2.2.2.1 (by have := hm.2.2.2.2.2.1; omega)
              rcases q1 with ⟨t, ht, ht4, hft⟩ | ⟨k2, E, w, c2, cd3, xv, yv, hL2, hrl, hrb, hcc, hck, hkk, t0, o0, f0, c31, hr25, hn9⟩
              · refine r_aload0 (pc := 224) C dX9_tellRule_224 ?_
                refine r_bipush (pc := 225) (v := nI 23) C dX9_tellRule_225 (by decide) ?_
                refine r_callVi (pc := 227) C rfl dX9_tellRule_227 kX9_269 gF9 jM (tX9_is Z.1 C.w ht (by omega)) rfl rfl (Nat.le_of_ble_eq_true rfl) (by decide) (fun x227 G227 h227 => ?_)
                obtain ⟨rfl, h227b⟩ := h227
                have h227b := h227b.symm
                subst h227b
                rw [isB_ff hft.pos.2]
                refine r_istore4 (pc := 230) C dX9_tellRule_230 rfl ?_
                refine r_iload4 (pc := 232) C dX9_tellRule_232 ?_
                refine r_if_ne (pc := 234) 246 C dX9_tellRule_234 (by decide) (fun c234 => ?_) (fun c234 => ?_)
                · exact absurd c234 (fun h => h rfl)
                refine r_aload0 (pc := 237) C dX9_tellRule_237 ?_
                refine r_bipush (pc := 238) (v := nI 24) C dX9_tellRule_238 (by decide) ?_
                refine r_callVi (pc := 240) C rfl dX9_tellRule_240 kX9_269 gF9 jM (tX9_is Z.1 C.w ht (by omega)) rfl rfl (Nat.le_of_ble_eq_true rfl) (by decide) (fun x240 G240 h240 => ?_)
                obtain ⟨rfl, h240b⟩ := h240
                have h240b := h240b.symm
                subst h240b
                rw [isB_ff hft.pos.2]
                refine r_if_eq (pc := 243) 250 C dX9_tellRule_243 (by decide) (fun c243 => ?_) (fun c243 => ?_)
                rotate_left
                · exact absurd c243 (fun h => h rfl)
                refine r_iconst (pc := 250) (v := nI 0) C dX9_tellRule_250 (by decide) ?_
                refine r_istore3 (pc := 251) C dX9_tellRule_251 rfl ?_
                refine r_iload3 (pc := 252) C dX9_tellRule_252 ?_
                refine r_if_eq (pc := 253) 207 C dX9_tellRule_253 (by decide) (fun c253 => ?_) (fun c253 => ?_)
                rotate_left
                · exact absurd c253 (fun h => h rfl)
                refine r_iload3 (pc := 207) C dX9_tellRule_207 ?_
                refine r_if_eq (pc := 208) 263 C dX9_tellRule_208 (by decide) (fun c208 => ?_) (fun c208 => ?_)
                rotate_left
                · exact absurd c208 (fun h => h rfl)
                exact finM t _ _ _ _ htl ht ht4 hft
              · have hk24 := hL2.1
                have hm2 : tlM G G221 B n s k2 cd3 fw2 rs qs a x (rels ++ [(o, w - 3, xv, yv)]) := by
                  obtain ⟨h1, h2, h3, h4, h5, h6, h7, h8, h9, h10, h11, h12, h13, h14, h15, h16, h17, h18⟩ := hm
                  have hcode : ∀ j, 500 * s ≤ j → j < cd2 → G221.1 32 j = G1.1 32 j ∧ G221.1 33 j = G1.1 33 j := fun j _ jb => p1.2.2.1 j (Or.inl jb)
                  refine ⟨htl, pgL.ext hcc (by omega) hcode h2 (fun p pa pb j _ _ => by rw [p1.1.1 p (by unfold rlS xS; omega)]) (fun p pa pb j ja jb => p1.2.2.2.1 p pa pb j (by omega)), h3, by rw [p1.1.1 20 (by unfold rlS xS; decide)]; exact h4, by rw [hr25, List.length_append]; rfl, by rw [List.length_append]; simp; omega, by omega, by omega, by rw [p1.1.1 21 (by unfold rlS xS; decide)]; exact h9, by rw [p1.1.1 22 (by unfold rlS xS; decide)]; exact h10, by rw [p1.1.1 23 (by unfold rlS xS; decide)]; exact h11, rlsB_snoc (rlsB.ext hcc (by omega) hcode h12 (fun p pa pb j ja jb => p1.2.2.2.1 p pa pb j (by omega))) ?_, t0, o0, f0, c31, h17.mono (by omega) (p1.2.1 15 (by decide) (by decide) (by decide) (by decide) (by decide) (by decide)) (p1.2.1 16 (by decide) (by decide) (by decide) (by decide) (by decide) (by decide)), by rw [p1.2.1 19 (by decide) (by decide) (by decide) (by decide) (by decide) (by decide)]; exact h18⟩
                  rw [show 200 * s + rlT qs + rels.length = 200 * s + (rlT qs + rels.length) by omega]
                  obtain ⟨r1, ra, re, r2, r3, r4⟩ := hrb
                  exact ⟨r1, ra, re, r2, by omega, r4⟩
                obtain ⟨hk1, hk2p⟩ := hTK k2 hk24 hL2.2.1
                have htq := hk1.q
                have e5 : G221.1 5 k2 = G.1 5 k2 := by rw [htl.1.1 5 (by unfold tlS xS; decide)]
                have e6 : G221.1 6 k2 = nI (tkT B n k2).2.2.1 := by rw [htl.1.1 6 (by unfold tlS xS; decide)]; exact hk2p
                obtain ⟨b, hb40, hkd, hbs, hb12, -, -, -, -, hb7, hb4, -, hb7v, -⟩ := tkk hk1
                by_cases h23 : b = 23
                · subst h23
                  refine r_aload0 (pc := 224) C dX9_tellRule_224 ?_
                  refine r_bipush (pc := 225) (v := nI 23) C dX9_tellRule_225 (by decide) ?_
                  refine r_callVi (pc := 227) C rfl dX9_tellRule_227 kX9_269 gF9 jM (tX9_is Z.1 C.w t0 (by omega)) rfl rfl (Nat.le_of_ble_eq_true rfl) (by decide) (fun x227 G227 h227 => ?_)
                  obtain ⟨rfl, h227b⟩ := h227
                  have h227b := h227b.symm
                  subst h227b
                  rw [isB_t f0 (by rw [e5, hkd])]
                  refine r_istore4 (pc := 230) C dX9_tellRule_230 rfl ?_
                  refine r_iload4 (pc := 232) C dX9_tellRule_232 ?_
                  refine r_if_ne (pc := 234) 246 C dX9_tellRule_234 (by decide) (fun c234 => ?_) (fun c234 => ?_)
                  rotate_left
                  · exact absurd c234 (by decide)
                  refine r_iconst (pc := 246) (v := nI 1) C dX9_tellRule_246 (by decide) ?_
                  refine r_goto (pc := 247) 251 C dX9_tellRule_247 (by decide) ?_
                  refine r_istore3 (pc := 251) C dX9_tellRule_251 rfl ?_
                  refine r_iload3 (pc := 252) C dX9_tellRule_252 ?_
                  refine r_if_eq (pc := 253) 207 C dX9_tellRule_253 (by decide) (fun c253 => ?_) (fun c253 => ?_)
                  · exact absurd c253 (by decide)
                  refine r_aload0 (pc := 256) C dX9_tellRule_256 ?_
                  refine r_callVv (pc := 257) C rfl dX9_tellRule_257 kX9_272 gF9 jM (tX9_next Z.1 C.w t0 (by omega)) rfl rfl (Nat.le_of_ble_eq_true rfl) (by decide) (fun G257 h257 => ?_)
                  subst h257
                  refine r_goto (pc := 260) 207 C dX9_tellRule_260 (by decide) ?_
                  have hc7 : cN (tkT B n k2).1 = 7 := hb7.mp (Or.inl rfl)
                  have hx7 : (tkT B n k2).2.1 = nI 1 := hb7v hc7
                  have hlv := lv6_join hL2 hc7 hx7 (by decide) htq
                  by_cases h400 : k2 = 400
                  · have hR := hlv.1 h400
                    rw [nF_4 h400 f0]
                    refine r_iload3 (pc := 207) C dX9_tellRule_207 ?_
                    refine r_if_eq (pc := 208) 263 C dX9_tellRule_208 (by decide) (fun c208 => ?_) (fun c208 => ?_)
                    · exact absurd c208 (by decide)
                    refine r_aload0 (pc := 211) C dX9_tellRule_211 ?_
                    refine gX9_251 (pc := 212) C dX9_tellRule_212 ?_
                    refine r_eqi (y := nI 2) (by rw [sI_s, upd_o (by decide), sI_s, upd_s]) ?_
                    refine r_if_ne (pc := 215) 263 C dX9_tellRule_215 (by decide) (fun c215 => ?_) (fun c215 => ?_)
                    rotate_left
                    · exact absurd c215 (by decide)
                    exact finM k2 _ _ _ _ ((hm2.1.sl (by decide)).sl (by decide)) (by rw [sI_s, upd_o (by decide), sI_s, upd_o (by decide)]; exact t0) (by omega) ⟨2, by decide, by decide, by rw [sI_s, upd_o (by decide), sI_s, upd_s], hR.1, by rw [sI_s, upd_s, hR.2, ← e6]⟩
                  · rw [nF_g h400]
                    have hrk : rk 1 = 1 := by decide +kernel
                    have hL3 := hlv.2 h400
                    rw [hrk] at hL3
                    obtain ⟨L3, hK3, hc3⟩ := cd_or hcd hrl
                    exact ih (401 - (k2 + 1)) (by omega) (k2 + 1) cd3 _ _ _ _ true _ _ rfl (by omega) hL3 hK3 (hc3 []) (hm2.nx hs4 hk24)
                · by_cases h24 : b = 24
                  · subst h24
                    refine r_aload0 (pc := 224) C dX9_tellRule_224 ?_
                    refine r_bipush (pc := 225) (v := nI 23) C dX9_tellRule_225 (by decide) ?_
                    refine r_callVi (pc := 227) C rfl dX9_tellRule_227 kX9_269 gF9 jM (tX9_is Z.1 C.w t0 (by omega)) rfl rfl (Nat.le_of_ble_eq_true rfl) (by decide) (fun x227 G227 h227 => ?_)
                    obtain ⟨rfl, h227b⟩ := h227
                    have h227b := h227b.symm
                    subst h227b
                    rw [isB_f (by rw [e5, hkd]; exact nI_dj (by omega) (by omega) (by decide))]
                    refine r_istore4 (pc := 230) C dX9_tellRule_230 rfl ?_
                    refine r_iload4 (pc := 232) C dX9_tellRule_232 ?_
                    refine r_if_ne (pc := 234) 246 C dX9_tellRule_234 (by decide) (fun c234 => ?_) (fun c234 => ?_)
                    · exact absurd c234 (fun h => h rfl)
                    refine r_aload0 (pc := 237) C dX9_tellRule_237 ?_
                    refine r_bipush (pc := 238) (v := nI 24) C dX9_tellRule_238 (by decide) ?_
                    refine r_callVi (pc := 240) C rfl dX9_tellRule_240 kX9_269 gF9 jM (tX9_is Z.1 C.w t0 (by omega)) rfl rfl (Nat.le_of_ble_eq_true rfl) (by decide) (fun x240 G240 h240 => ?_)
                    obtain ⟨rfl, h240b⟩ := h240
                    have h240b := h240b.symm
                    subst h240b
                    rw [isB_t f0 (by rw [e5, hkd])]
                    refine r_if_eq (pc := 243) 250 C dX9_tellRule_243 (by decide) (fun c243 => ?_) (fun c243 => ?_)
                    · exact absurd c243 (by decide)
                    refine r_iconst (pc := 246) (v := nI 1) C dX9_tellRule_246 (by decide) ?_
                    refine r_goto (pc := 247) 251 C dX9_tellRule_247 (by decide) ?_
                    refine r_istore3 (pc := 251) C dX9_tellRule_251 rfl ?_
                    refine r_iload3 (pc := 252) C dX9_tellRule_252 ?_
                    refine r_if_eq (pc := 253) 207 C dX9_tellRule_253 (by decide) (fun c253 => ?_) (fun c253 => ?_)
                    · exact absurd c253 (by decide)
                    refine r_aload0 (pc := 256) C dX9_tellRule_256 ?_
                    refine r_callVv (pc := 257) C rfl dX9_tellRule_257 kX9_272 gF9 jM (tX9_next Z.1 C.w t0 (by omega)) rfl rfl (Nat.le_of_ble_eq_true rfl) (by decide) (fun G257 h257 => ?_)
                    subst h257
                    refine r_goto (pc := 260) 207 C dX9_tellRule_260 (by decide) ?_
                    have hc7 : cN (tkT B n k2).1 = 7 := hb7.mp (Or.inr rfl)
                    have hx7 : (tkT B n k2).2.1 = nI 2 := hb7v hc7
                    have hlv := lv6_join hL2 hc7 hx7 (by decide) htq
                    by_cases h400 : k2 = 400
                    · have hR := hlv.1 h400
                      rw [nF_4 h400 f0]
                      refine r_iload3 (pc := 207) C dX9_tellRule_207 ?_
                      refine r_if_eq (pc := 208) 263 C dX9_tellRule_208 (by decide) (fun c208 => ?_) (fun c208 => ?_)
                      · exact absurd c208 (by decide)
                      refine r_aload0 (pc := 211) C dX9_tellRule_211 ?_
                      refine gX9_251 (pc := 212) C dX9_tellRule_212 ?_
                      refine r_eqi (y := nI 2) (by rw [sI_s, upd_o (by decide), sI_s, upd_s]) ?_
                      refine r_if_ne (pc := 215) 263 C dX9_tellRule_215 (by decide) (fun c215 => ?_) (fun c215 => ?_)
                      rotate_left
                      · exact absurd c215 (by decide)
                      exact finM k2 _ _ _ _ ((hm2.1.sl (by decide)).sl (by decide)) (by rw [sI_s, upd_o (by decide), sI_s, upd_o (by decide)]; exact t0) (by omega) ⟨2, by decide, by decide, by rw [sI_s, upd_o (by decide), sI_s, upd_s], hR.1, by rw [sI_s, upd_s, hR.2, ← e6]⟩
                    · rw [nF_g h400]
                      have hrk : rk 2 = 2 := by decide +kernel
                      have hL3 := hlv.2 h400
                      rw [hrk] at hL3
                      obtain ⟨L3, hK3, hc3⟩ := cd_and hcd hrl
                      exact ih (401 - (k2 + 1)) (by omega) (k2 + 1) cd3 _ _ _ _ false _ _ rfl (by omega) hL3 hK3 (hc3 []) (hm2.nx hs4 hk24)
                  · have h7 : cN (tkT B n k2).1 ≠ 7 := fun z => (hb7.mpr z).elim h23 h24
                    refine r_aload0 (pc := 224) C dX9_tellRule_224 ?_
                    refine r_bipush (pc := 225) (v := nI 23) C dX9_tellRule_225 (by decide) ?_
                    refine r_callVi (pc := 227) C rfl dX9_tellRule_227 kX9_269 gF9 jM (tX9_is Z.1 C.w t0 (by omega)) rfl rfl (Nat.le_of_ble_eq_true rfl) (by decide) (fun x227 G227 h227 => ?_)
                    obtain ⟨rfl, h227b⟩ := h227
                    have h227b := h227b.symm
                    subst h227b
                    rw [isB_f (by rw [e5, hkd]; exact nI_dj (by omega) (by omega) (by decide))]
                    refine r_istore4 (pc := 230) C dX9_tellRule_230 rfl ?_
                    refine r_iload4 (pc := 232) C dX9_tellRule_232 ?_
                    refine r_if_ne (pc := 234) 246 C dX9_tellRule_234 (by decide) (fun c234 => ?_) (fun c234 => ?_)
                    · exact absurd c234 (fun h => h rfl)
                    refine r_aload0 (pc := 237) C dX9_tellRule_237 ?_
                    refine r_bipush (pc := 238) (v := nI 24) C dX9_tellRule_238 (by decide) ?_
                    refine r_callVi (pc := 240) C rfl dX9_tellRule_240 kX9_269 gF9 jM (tX9_is Z.1 C.w t0 (by omega)) rfl rfl (Nat.le_of_ble_eq_true rfl) (by decide) (fun x240 G240 h240 => ?_)
                    obtain ⟨rfl, h240b⟩ := h240
                    have h240b := h240b.symm
                    subst h240b
                    rw [isB_f (by rw [e5, hkd]; exact nI_dj (by omega) (by omega) (by decide))]
                    refine r_if_eq (pc := 243) 250 C dX9_tellRule_243 (by decide) (fun c243 => ?_) (fun c243 => ?_)
                    rotate_left
                    · exact absurd c243 (fun h => h rfl)
                    refine r_iconst (pc := 250) (v := nI 0) C dX9_tellRule_250 (by decide) ?_
                    refine r_istore3 (pc := 251) C dX9_tellRule_251 rfl ?_
                    refine r_iload3 (pc := 252) C dX9_tellRule_252 ?_
                    refine r_if_eq (pc := 253) 207 C dX9_tellRule_253 (by decide) (fun c253 => ?_) (fun c253 => ?_)
                    rotate_left
                    · exact absurd c253 (fun h => h rfl)
                    refine r_iload3 (pc := 207) C dX9_tellRule_207 ?_
                    refine r_if_eq (pc := 208) 263 C dX9_tellRule_208 (by decide) (fun c208 => ?_) (fun c208 => ?_)
                    rotate_left
                    · exact absurd c208 (fun h => h rfl)
                    exact s4 a x k2 cd3 fw2 _ _ _ _ _ (by omega) hk24 hL2.2.1 hm2 (fun z => by
                      have hlv := lv6_semi hL2 z htq
                      obtain ⟨e1, e2⟩ := cd_end hcd hrl
                      refine ⟨hlv.1, fun h4 => ?_⟩
                      have hL3 := hlv.2 h4
                      rw [e1 []] at hL3
                      exact ⟨true, _, hL3, rfl, rfl, ⟨x, hx9, rfl⟩, Or.inr ⟨app_ne, e2⟩⟩) (fun z => lv6_bad hL2 hn9 (by omega) z)
          intro kk cd2 c opsP L rels o j2 G1 z1 z2 z3 z4 z5
          exact loop3 _ kk cd2 c opsP L rels o j2 G1 rfl z1 z2 z3 z4 z5
        have sC : ∀ (a : Bool) (x : Nat) (fw2 : Int32) (G1 : gS), x ≤ 9999 → Lv B n R (k + 2) (if a = true then 4 else 2, 0, rel, fw2, [], (a, nI x, []) :: rs) → tlF G G1 s ∧ pgL G1 s cd qs ∧ rs.length = qs.length ∧ G1.1 20 s = nI rs.length ∧ G1.1 25 s = nI (rlT qs) ∧ 3 * rlT qs ≤ k ∧ 500 * s ≤ cd ∧ cd ≤ 500 * s + k ∧ G1.1 21 (20 * s + rs.length) = bI a ∧ G1.1 22 (20 * s + rs.length) = nI x ∧ G1.1 100 11 = nI (k + 2) ∧ G1.1 100 12 = nI 0 ∧ G1.1 100 13 = 0 ∧ G1.1 100 31 = nI cd ∧ wsI G1 B n fw2 (k + 2) ∧ G1.1 100 19 = nI s → WW Z (qv (fun G' => tlP G G' B n R s k)) 154 [some (.ref (ad Z (100))), some (.int (nI (20 * s + rs.length))), some (.int (nI (k + 1))), none, none] [] G1 := by
          intro a x fw2 G1 hx9 hL2 hb
          obtain ⟨m1, m2, m3, m4, m5, m6, m7, m8, m9, m10, m11, m12, m13, m14, m15, m16⟩ := hb
          have hk24 := hL2.1
          obtain ⟨hk1, hk2p⟩ := hTK (k + 2) hk24 hL2.2.1
          have htq := hk1.q
          obtain ⟨b, hb40, hkd, hbs, hb12, -, -, -, hb6, -, hb4, -, -, -⟩ := tkk hk1
          by_cases h21 : b = 21
          · subst h21
            have hlv := lv2_if hL2 (hb6.mp rfl) htq
            cases a
            · refine r_aload0 (pc := 154) C dX9_tellRule_154 ?_
              refine gX9_52 (pc := 155) C dX9_tellRule_155 ?_
              refine r_iload1 (pc := 158) C dX9_tellRule_158 ?_
              refine r_aload0 (pc := 159) C dX9_tellRule_159 ?_
              refine gX9_58 (pc := 160) C dX9_tellRule_160 ?_
              refine r_aload0 (pc := 163) C dX9_tellRule_163 ?_
              refine gX9_281 (pc := 164) C dX9_tellRule_164 ?_
              refine r_eqi (y := nI s) m16 ?_
              refine r_iald (pc := 167) (_) C dX9_tellRule_167 aM25 (rfl) (by omega) ?_
              refine r_eqi (y := nI (rlT qs)) m5 ?_
              refine r_iast (pc := 168) (_) C dX9_tellRule_168 aM23 (rfl) (by omega) ?_
              have hm : tlM G (sI G1 23 (20 * s + rs.length) (nI (rlT qs))) B n s (k + 2) cd fw2 rs qs false x [] := by
                refine ⟨m1.wr (by decide) h20, pgL.ext (Nat.le_refl _) (by omega) (fun j _ _ => by rw [sI_o (by decide), sI_o (by decide)]; exact ⟨rfl, rfl⟩) m2 (fun p pa pb j ja jb => ?_) (fun p pa pb j _ _ => by rw [sI_o (by omega)]), m3, by rw [sI_o (by decide)]; exact m4, by rw [sI_o (by decide)]; exact m5, by simp; omega, m7, by omega, by rw [sI_o (by decide)]; exact m9, by rw [sI_o (by decide)]; exact m10, by rw [sI_s, upd_s], trivial, by rw [sI_o (by decide)]; exact m11, by rw [sI_o (by decide)]; exact m12, by rw [sI_o (by decide)]; exact m13, by rw [sI_o (by decide)]; exact m14, m15.mono (Nat.le_refl _) (by rw [sI_o (by decide)]) (by rw [sI_o (by decide)]), by rw [sI_o (by decide)]; exact m16⟩
                by_cases e : p = 23
                · subst e; rw [sI_s, upd_o (by omega)]
                · rw [sI_o e]
              have t0 : (sI G1 23 (20 * s + rs.length) (nI (rlT qs))).1 100 11 = nI (k + 2) := hm.2.2.2.2.2.2.2.2.2.2.2.2.1
              have f0 : (sI G1 23 (20 * s + rs.length) (nI (rlT qs))).1 100 13 = 0 := hm.2.2.2.2.2.2.2.2.2.2.2.2.2.2.1
              have e5 : (sI G1 23 (20 * s + rs.length) (nI (rlT qs))).1 5 (k + 2) = G.1 5 (k + 2) := by rw [hm.1.1.1 5 (by unfold tlS xS; decide)]
              have e6 : (sI G1 23 (20 * s + rs.length) (nI (rlT qs))).1 6 (k + 2) = nI (tkT B n (k + 2)).2.2.1 := by rw [hm.1.1.1 6 (by unfold tlS xS; decide)]; exact hk2p
              refine r_aload0 (pc := 169) C dX9_tellRule_169 ?_
              refine gX9_46 (pc := 170) C dX9_tellRule_170 ?_
              refine r_iload1 (pc := 173) C dX9_tellRule_173 ?_
              refine r_iald (pc := 174) (_) C dX9_tellRule_174 aM21 (rfl) (by omega) ?_
              refine r_eqi (y := bI false) (by rw [sI_o (by decide)]; exact m9) ?_
              refine r_iconst (pc := 175) (v := nI 1) C dX9_tellRule_175 (by decide) ?_
              refine r_icmp_eq (pc := 176) 188 C dX9_tellRule_176 (by decide) (fun c176 => ?_) (fun c176 => ?_)
              · exact absurd c176 (by decide)
              refine r_aload0 (pc := 179) C dX9_tellRule_179 ?_
              refine r_bipush (pc := 180) (v := nI 21) C dX9_tellRule_180 (by decide) ?_
              refine r_callVi (pc := 182) C rfl dX9_tellRule_182 kX9_269 gF9 jM (tX9_is Z.1 C.w t0 (by omega)) rfl rfl (Nat.le_of_ble_eq_true rfl) (by decide) (fun x182 G182 h182 => ?_)
              obtain ⟨rfl, h182b⟩ := h182
              have h182b := h182b.symm
              subst h182b
              rw [isB_t f0 (by rw [e5, hkd])]
              refine r_if_eq (pc := 185) 192 C dX9_tellRule_185 (by decide) (fun c185 => ?_) (fun c185 => ?_)
              · exact absurd c185 (by decide)
              refine r_iconst (pc := 188) (v := nI 1) C dX9_tellRule_188 (by decide) ?_
              refine r_goto (pc := 189) 193 C dX9_tellRule_189 (by decide) ?_
              refine r_istore3 (pc := 193) C dX9_tellRule_193 rfl ?_
              refine r_iload3 (pc := 194) C dX9_tellRule_194 ?_
              refine r_if_eq (pc := 195) 204 C dX9_tellRule_195 (by decide) (fun c195 => ?_) (fun c195 => ?_)
              · exact absurd c195 (by decide)
              refine r_aload0 (pc := 198) C dX9_tellRule_198 ?_
              refine r_bipush (pc := 199) (v := nI 21) C dX9_tellRule_199 (by decide) ?_
              refine r_callVv (pc := 201) C rfl dX9_tellRule_201 kX9_294 gF9 jM (tX9_must Z.1 C.w t0 (by omega)) rfl rfl (Nat.le_of_ble_eq_true rfl) (by decide) (fun G201 h201 => ?_)
              rw [isB_t f0 (by rw [e5, hkd]), if_pos rfl] at h201
              subst h201
              by_cases h400 : k + 2 = 400
              · have hR := hlv.1 h400
                rw [nF_4 h400 f0]
                refine r_iconst (pc := 204) (v := nI 1) C dX9_tellRule_204 (by decide) ?_
                refine r_istore4 (pc := 205) C dX9_tellRule_205 rfl ?_
                refine r_iload3 (pc := 207) C dX9_tellRule_207 ?_
                refine r_if_eq (pc := 208) 263 C dX9_tellRule_208 (by decide) (fun c208 => ?_) (fun c208 => ?_)
                · exact absurd c208 (by decide)
                refine r_aload0 (pc := 211) C dX9_tellRule_211 ?_
                refine gX9_251 (pc := 212) C dX9_tellRule_212 ?_
                refine r_eqi (y := nI 2) (by rw [sI_s, upd_o (by decide), sI_s, upd_s]) ?_
                refine r_if_ne (pc := 215) 263 C dX9_tellRule_215 (by decide) (fun c215 => ?_) (fun c215 => ?_)
                rotate_left
                · exact absurd c215 (by decide)
                exact finM (k + 2) _ _ _ _ ((hm.1.sl (by decide)).sl (by decide)) (by rw [sI_s, upd_o (by decide), sI_s, upd_o (by decide)]; exact t0) (by omega) ⟨2, by decide, by decide, by rw [sI_s, upd_o (by decide), sI_s, upd_s], hR.1, by rw [sI_s, upd_s, hR.2, ← e6]⟩
              · have hL3 := hlv.2 h400
                rw [nF_g h400]
                refine r_iconst (pc := 204) (v := nI 1) C dX9_tellRule_204 (by decide) ?_
                refine r_istore4 (pc := 205) C dX9_tellRule_205 rfl ?_
                exact s3 false x fw2 hx9 (k + 3) cd [] [] (fun _ => []) [] true _ _ (by omega) hL3 (fun v => rfl) (Or.inl ⟨rfl, rfl, rfl, fun _ => rfl⟩) (hm.nx hs4 hk24)
            · refine r_aload0 (pc := 154) C dX9_tellRule_154 ?_
              refine gX9_52 (pc := 155) C dX9_tellRule_155 ?_
              refine r_iload1 (pc := 158) C dX9_tellRule_158 ?_
              refine r_aload0 (pc := 159) C dX9_tellRule_159 ?_
              refine gX9_58 (pc := 160) C dX9_tellRule_160 ?_
              refine r_aload0 (pc := 163) C dX9_tellRule_163 ?_
              refine gX9_281 (pc := 164) C dX9_tellRule_164 ?_
              refine r_eqi (y := nI s) m16 ?_
              refine r_iald (pc := 167) (_) C dX9_tellRule_167 aM25 (rfl) (by omega) ?_
              refine r_eqi (y := nI (rlT qs)) m5 ?_
              refine r_iast (pc := 168) (_) C dX9_tellRule_168 aM23 (rfl) (by omega) ?_
              have hm : tlM G (sI G1 23 (20 * s + rs.length) (nI (rlT qs))) B n s (k + 2) cd fw2 rs qs true x [] := by
                refine ⟨m1.wr (by decide) h20, pgL.ext (Nat.le_refl _) (by omega) (fun j _ _ => by rw [sI_o (by decide), sI_o (by decide)]; exact ⟨rfl, rfl⟩) m2 (fun p pa pb j ja jb => ?_) (fun p pa pb j _ _ => by rw [sI_o (by omega)]), m3, by rw [sI_o (by decide)]; exact m4, by rw [sI_o (by decide)]; exact m5, by simp; omega, m7, by omega, by rw [sI_o (by decide)]; exact m9, by rw [sI_o (by decide)]; exact m10, by rw [sI_s, upd_s], trivial, by rw [sI_o (by decide)]; exact m11, by rw [sI_o (by decide)]; exact m12, by rw [sI_o (by decide)]; exact m13, by rw [sI_o (by decide)]; exact m14, m15.mono (Nat.le_refl _) (by rw [sI_o (by decide)]) (by rw [sI_o (by decide)]), by rw [sI_o (by decide)]; exact m16⟩
                by_cases e : p = 23
                · subst e; rw [sI_s, upd_o (by omega)]
                · rw [sI_o e]
              have t0 : (sI G1 23 (20 * s + rs.length) (nI (rlT qs))).1 100 11 = nI (k + 2) := hm.2.2.2.2.2.2.2.2.2.2.2.2.1
              have f0 : (sI G1 23 (20 * s + rs.length) (nI (rlT qs))).1 100 13 = 0 := hm.2.2.2.2.2.2.2.2.2.2.2.2.2.2.1
              have e5 : (sI G1 23 (20 * s + rs.length) (nI (rlT qs))).1 5 (k + 2) = G.1 5 (k + 2) := by rw [hm.1.1.1 5 (by unfold tlS xS; decide)]
              have e6 : (sI G1 23 (20 * s + rs.length) (nI (rlT qs))).1 6 (k + 2) = nI (tkT B n (k + 2)).2.2.1 := by rw [hm.1.1.1 6 (by unfold tlS xS; decide)]; exact hk2p
              refine r_aload0 (pc := 169) C dX9_tellRule_169 ?_
              refine gX9_46 (pc := 170) C dX9_tellRule_170 ?_
              refine r_iload1 (pc := 173) C dX9_tellRule_173 ?_
              refine r_iald (pc := 174) (_) C dX9_tellRule_174 aM21 (rfl) (by omega) ?_
              refine r_eqi (y := bI true) (by rw [sI_o (by decide)]; exact m9) ?_
              refine r_iconst (pc := 175) (v := nI 1) C dX9_tellRule_175 (by decide) ?_
              refine r_icmp_eq (pc := 176) 188 C dX9_tellRule_176 (by decide) (fun c176 => ?_) (fun c176 => ?_)
              rotate_left
              · exact absurd c176 (fun h => h rfl)
              refine r_iconst (pc := 188) (v := nI 1) C dX9_tellRule_188 (by decide) ?_
              refine r_goto (pc := 189) 193 C dX9_tellRule_189 (by decide) ?_
              refine r_istore3 (pc := 193) C dX9_tellRule_193 rfl ?_
              refine r_iload3 (pc := 194) C dX9_tellRule_194 ?_
              refine r_if_eq (pc := 195) 204 C dX9_tellRule_195 (by decide) (fun c195 => ?_) (fun c195 => ?_)
              · exact absurd c195 (by decide)
              refine r_aload0 (pc := 198) C dX9_tellRule_198 ?_
              refine r_bipush (pc := 199) (v := nI 21) C dX9_tellRule_199 (by decide) ?_
              refine r_callVv (pc := 201) C rfl dX9_tellRule_201 kX9_294 gF9 jM (tX9_must Z.1 C.w t0 (by omega)) rfl rfl (Nat.le_of_ble_eq_true rfl) (by decide) (fun G201 h201 => ?_)
              rw [isB_t f0 (by rw [e5, hkd]), if_pos rfl] at h201
              subst h201
              by_cases h400 : k + 2 = 400
              · have hR := hlv.1 h400
                rw [nF_4 h400 f0]
                refine r_iconst (pc := 204) (v := nI 1) C dX9_tellRule_204 (by decide) ?_
                refine r_istore4 (pc := 205) C dX9_tellRule_205 rfl ?_
                refine r_iload3 (pc := 207) C dX9_tellRule_207 ?_
                refine r_if_eq (pc := 208) 263 C dX9_tellRule_208 (by decide) (fun c208 => ?_) (fun c208 => ?_)
                · exact absurd c208 (by decide)
                refine r_aload0 (pc := 211) C dX9_tellRule_211 ?_
                refine gX9_251 (pc := 212) C dX9_tellRule_212 ?_
                refine r_eqi (y := nI 2) (by rw [sI_s, upd_o (by decide), sI_s, upd_s]) ?_
                refine r_if_ne (pc := 215) 263 C dX9_tellRule_215 (by decide) (fun c215 => ?_) (fun c215 => ?_)
                rotate_left
                · exact absurd c215 (by decide)
                exact finM (k + 2) _ _ _ _ ((hm.1.sl (by decide)).sl (by decide)) (by rw [sI_s, upd_o (by decide), sI_s, upd_o (by decide)]; exact t0) (by omega) ⟨2, by decide, by decide, by rw [sI_s, upd_o (by decide), sI_s, upd_s], hR.1, by rw [sI_s, upd_s, hR.2, ← e6]⟩
              · have hL3 := hlv.2 h400
                rw [nF_g h400]
                refine r_iconst (pc := 204) (v := nI 1) C dX9_tellRule_204 (by decide) ?_
                refine r_istore4 (pc := 205) C dX9_tellRule_205 rfl ?_
                exact s3 true x fw2 hx9 (k + 3) cd [] [] (fun _ => []) [] true _ _ (by omega) hL3 (fun v => rfl) (Or.inl ⟨rfl, rfl, rfl, fun _ => rfl⟩) (hm.nx hs4 hk24)
          · have h6 : cN (tkT B n (k + 2)).1 ≠ 6 := fun z => h21 (hb6.mpr z)
            cases a
            · have hL2 : Lv B n R (k + 2) (2, 0, rel, fw2, [], (false, nI x, []) :: rs) := hL2
              refine r_aload0 (pc := 154) C dX9_tellRule_154 ?_
              refine gX9_52 (pc := 155) C dX9_tellRule_155 ?_
              refine r_iload1 (pc := 158) C dX9_tellRule_158 ?_
              refine r_aload0 (pc := 159) C dX9_tellRule_159 ?_
              refine gX9_58 (pc := 160) C dX9_tellRule_160 ?_
              refine r_aload0 (pc := 163) C dX9_tellRule_163 ?_
              refine gX9_281 (pc := 164) C dX9_tellRule_164 ?_
              refine r_eqi (y := nI s) m16 ?_
              refine r_iald (pc := 167) (_) C dX9_tellRule_167 aM25 (rfl) (by omega) ?_
              refine r_eqi (y := nI (rlT qs)) m5 ?_
              refine r_iast (pc := 168) (_) C dX9_tellRule_168 aM23 (rfl) (by omega) ?_
              have hm : tlM G (sI G1 23 (20 * s + rs.length) (nI (rlT qs))) B n s (k + 2) cd fw2 rs qs false x [] := by
                refine ⟨m1.wr (by decide) h20, pgL.ext (Nat.le_refl _) (by omega) (fun j _ _ => by rw [sI_o (by decide), sI_o (by decide)]; exact ⟨rfl, rfl⟩) m2 (fun p pa pb j ja jb => ?_) (fun p pa pb j _ _ => by rw [sI_o (by omega)]), m3, by rw [sI_o (by decide)]; exact m4, by rw [sI_o (by decide)]; exact m5, by simp; omega, m7, by omega, by rw [sI_o (by decide)]; exact m9, by rw [sI_o (by decide)]; exact m10, by rw [sI_s, upd_s], trivial, by rw [sI_o (by decide)]; exact m11, by rw [sI_o (by decide)]; exact m12, by rw [sI_o (by decide)]; exact m13, by rw [sI_o (by decide)]; exact m14, m15.mono (Nat.le_refl _) (by rw [sI_o (by decide)]) (by rw [sI_o (by decide)]), by rw [sI_o (by decide)]; exact m16⟩
                by_cases e : p = 23
                · subst e; rw [sI_s, upd_o (by omega)]
                · rw [sI_o e]
              have t0 : (sI G1 23 (20 * s + rs.length) (nI (rlT qs))).1 100 11 = nI (k + 2) := hm.2.2.2.2.2.2.2.2.2.2.2.2.1
              have f0 : (sI G1 23 (20 * s + rs.length) (nI (rlT qs))).1 100 13 = 0 := hm.2.2.2.2.2.2.2.2.2.2.2.2.2.2.1
              have e5 : (sI G1 23 (20 * s + rs.length) (nI (rlT qs))).1 5 (k + 2) = G.1 5 (k + 2) := by rw [hm.1.1.1 5 (by unfold tlS xS; decide)]
              have e6 : (sI G1 23 (20 * s + rs.length) (nI (rlT qs))).1 6 (k + 2) = nI (tkT B n (k + 2)).2.2.1 := by rw [hm.1.1.1 6 (by unfold tlS xS; decide)]; exact hk2p
              refine r_aload0 (pc := 169) C dX9_tellRule_169 ?_
              refine gX9_46 (pc := 170) C dX9_tellRule_170 ?_
              refine r_iload1 (pc := 173) C dX9_tellRule_173 ?_
              refine r_iald (pc := 174) (_) C dX9_tellRule_174 aM21 (rfl) (by omega) ?_
              refine r_eqi (y := bI false) (by rw [sI_o (by decide)]; exact m9) ?_
              refine r_iconst (pc := 175) (v := nI 1) C dX9_tellRule_175 (by decide) ?_
              refine r_icmp_eq (pc := 176) 188 C dX9_tellRule_176 (by decide) (fun c176 => ?_) (fun c176 => ?_)
              · exact absurd c176 (by decide)
              refine r_aload0 (pc := 179) C dX9_tellRule_179 ?_
              refine r_bipush (pc := 180) (v := nI 21) C dX9_tellRule_180 (by decide) ?_
              refine r_callVi (pc := 182) C rfl dX9_tellRule_182 kX9_269 gF9 jM (tX9_is Z.1 C.w t0 (by omega)) rfl rfl (Nat.le_of_ble_eq_true rfl) (by decide) (fun x182 G182 h182 => ?_)
              obtain ⟨rfl, h182b⟩ := h182
              have h182b := h182b.symm
              subst h182b
              rw [isB_f (by rw [e5, hkd]; exact nI_dj (by omega) (by omega) (by decide))]
              refine r_if_eq (pc := 185) 192 C dX9_tellRule_185 (by decide) (fun c185 => ?_) (fun c185 => ?_)
              rotate_left
              · exact absurd c185 (fun h => h rfl)
              refine r_iconst (pc := 192) (v := nI 0) C dX9_tellRule_192 (by decide) ?_
              refine r_istore3 (pc := 193) C dX9_tellRule_193 rfl ?_
              refine r_iload3 (pc := 194) C dX9_tellRule_194 ?_
              refine r_if_eq (pc := 195) 204 C dX9_tellRule_195 (by decide) (fun c195 => ?_) (fun c195 => ?_)
              rotate_left
              · exact absurd c195 (fun h => h rfl)
              refine r_iconst (pc := 204) (v := nI 1) C dX9_tellRule_204 (by decide) ?_
              refine r_istore4 (pc := 205) C dX9_tellRule_205 rfl ?_
              refine r_iload3 (pc := 207) C dX9_tellRule_207 ?_
              refine r_if_eq (pc := 208) 263 C dX9_tellRule_208 (by decide) (fun c208 => ?_) (fun c208 => ?_)
              rotate_left
              · exact absurd c208 (fun h => h rfl)
              exact s4 false x (k + 2) cd fw2 [] _ _ _ _ (by omega) hk24 hL2.2.1 hm (fun z => by
                have hlv := lv2_semi hL2 z htq
                exact ⟨hlv.1, fun h4 => ⟨false, [], hlv.2 h4, rfl, rfl, ⟨x, hx9, rfl⟩, Or.inl ⟨rfl, rfl⟩⟩⟩) (fun z => lv2_bad hL2 (by omega) z)
            · have hL2 : Lv B n R (k + 2) (4, 0, rel, fw2, [], (true, nI x, []) :: rs) := hL2
              have hR := lv4_bad hL2 h6
              refine r_aload0 (pc := 154) C dX9_tellRule_154 ?_
              refine gX9_52 (pc := 155) C dX9_tellRule_155 ?_
              refine r_iload1 (pc := 158) C dX9_tellRule_158 ?_
              refine r_aload0 (pc := 159) C dX9_tellRule_159 ?_
              refine gX9_58 (pc := 160) C dX9_tellRule_160 ?_
              refine r_aload0 (pc := 163) C dX9_tellRule_163 ?_
              refine gX9_281 (pc := 164) C dX9_tellRule_164 ?_
              refine r_eqi (y := nI s) m16 ?_
              refine r_iald (pc := 167) (_) C dX9_tellRule_167 aM25 (rfl) (by omega) ?_
              refine r_eqi (y := nI (rlT qs)) m5 ?_
              refine r_iast (pc := 168) (_) C dX9_tellRule_168 aM23 (rfl) (by omega) ?_
              have hm : tlM G (sI G1 23 (20 * s + rs.length) (nI (rlT qs))) B n s (k + 2) cd fw2 rs qs true x [] := by
                refine ⟨m1.wr (by decide) h20, pgL.ext (Nat.le_refl _) (by omega) (fun j _ _ => by rw [sI_o (by decide), sI_o (by decide)]; exact ⟨rfl, rfl⟩) m2 (fun p pa pb j ja jb => ?_) (fun p pa pb j _ _ => by rw [sI_o (by omega)]), m3, by rw [sI_o (by decide)]; exact m4, by rw [sI_o (by decide)]; exact m5, by simp; omega, m7, by omega, by rw [sI_o (by decide)]; exact m9, by rw [sI_o (by decide)]; exact m10, by rw [sI_s, upd_s], trivial, by rw [sI_o (by decide)]; exact m11, by rw [sI_o (by decide)]; exact m12, by rw [sI_o (by decide)]; exact m13, by rw [sI_o (by decide)]; exact m14, m15.mono (Nat.le_refl _) (by rw [sI_o (by decide)]) (by rw [sI_o (by decide)]), by rw [sI_o (by decide)]; exact m16⟩
                by_cases e : p = 23
                · subst e; rw [sI_s, upd_o (by omega)]
                · rw [sI_o e]
              have t0 : (sI G1 23 (20 * s + rs.length) (nI (rlT qs))).1 100 11 = nI (k + 2) := hm.2.2.2.2.2.2.2.2.2.2.2.2.1
              have f0 : (sI G1 23 (20 * s + rs.length) (nI (rlT qs))).1 100 13 = 0 := hm.2.2.2.2.2.2.2.2.2.2.2.2.2.2.1
              have e5 : (sI G1 23 (20 * s + rs.length) (nI (rlT qs))).1 5 (k + 2) = G.1 5 (k + 2) := by rw [hm.1.1.1 5 (by unfold tlS xS; decide)]
              have e6 : (sI G1 23 (20 * s + rs.length) (nI (rlT qs))).1 6 (k + 2) = nI (tkT B n (k + 2)).2.2.1 := by rw [hm.1.1.1 6 (by unfold tlS xS; decide)]; exact hk2p
              refine r_aload0 (pc := 169) C dX9_tellRule_169 ?_
              refine gX9_46 (pc := 170) C dX9_tellRule_170 ?_
              refine r_iload1 (pc := 173) C dX9_tellRule_173 ?_
              refine r_iald (pc := 174) (_) C dX9_tellRule_174 aM21 (rfl) (by omega) ?_
              refine r_eqi (y := bI true) (by rw [sI_o (by decide)]; exact m9) ?_
              refine r_iconst (pc := 175) (v := nI 1) C dX9_tellRule_175 (by decide) ?_
              refine r_icmp_eq (pc := 176) 188 C dX9_tellRule_176 (by decide) (fun c176 => ?_) (fun c176 => ?_)
              rotate_left
              · exact absurd c176 (fun h => h rfl)
              refine r_iconst (pc := 188) (v := nI 1) C dX9_tellRule_188 (by decide) ?_
              refine r_goto (pc := 189) 193 C dX9_tellRule_189 (by decide) ?_
              refine r_istore3 (pc := 193) C dX9_tellRule_193 rfl ?_
              refine r_iload3 (pc := 194) C dX9_tellRule_194 ?_
              refine r_if_eq (pc := 195) 204 C dX9_tellRule_195 (by decide) (fun c195 => ?_) (fun c195 => ?_)
              · exact absurd c195 (by decide)
              refine r_aload0 (pc := 198) C dX9_tellRule_198 ?_
              refine r_bipush (pc := 199) (v := nI 21) C dX9_tellRule_199 (by decide) ?_
              refine r_callVv (pc := 201) C rfl dX9_tellRule_201 kX9_294 gF9 jM (tX9_must Z.1 C.w t0 (by omega)) rfl rfl (Nat.le_of_ble_eq_true rfl) (by decide) (fun G201 h201 => ?_)
              rw [isB_f (by rw [e5, hkd]; exact nI_dj (by omega) (by omega) (by decide)), if_neg (by decide), fF_0 f0] at h201
              subst h201
              refine r_iconst (pc := 204) (v := nI 1) C dX9_tellRule_204 (by decide) ?_
              refine r_istore4 (pc := 205) C dX9_tellRule_205 rfl ?_
              refine r_iload3 (pc := 207) C dX9_tellRule_207 ?_
              refine r_if_eq (pc := 208) 263 C dX9_tellRule_208 (by decide) (fun c208 => ?_) (fun c208 => ?_)
              · exact absurd c208 (by decide)
              refine r_aload0 (pc := 211) C dX9_tellRule_211 ?_
              refine gX9_251 (pc := 212) C dX9_tellRule_212 ?_
              refine r_eqi (y := nI 1) (by rw [sI_s, upd_o (by decide), sI_s, upd_s]) ?_
              refine r_if_ne (pc := 215) 263 C dX9_tellRule_215 (by decide) (fun c215 => ?_) (fun c215 => ?_)
              rotate_left
              · exact absurd c215 (by decide)
              exact finM (k + 2) _ _ _ _ ((hm.1.sl (by decide)).sl (by decide)) (by rw [sI_s, upd_o (by decide), sI_s, upd_o (by decide)]; exact t0) (by omega) ⟨1, by decide, by decide, by rw [sI_s, upd_o (by decide), sI_s, upd_s], hR.1, by rw [sI_s, upd_s, hR.2, ← e6]⟩
        have finN : ∀ (t : Nat) (G1 : gS), tlF G G1 s → G1.1 100 11 = nI t → t ≤ 401 → Ft G1 R → WW Z (qv (fun G' => tlP G G' B n R s k)) 95 [some (.ref (ad Z (100))), some (.int (nI (20 * s + rs.length))), none, none, none] [] G1 := by
          intro t G1 hf ht ht4 hft
          refine r_aload0 (pc := 95) C dX9_tellRule_95 ?_
          refine gX9_254 (pc := 96) C dX9_tellRule_96 ?_
          refine r_eqi ht ?_
          refine r_istore2 (pc := 99) C dX9_tellRule_99 rfl ?_
          refine r_aload0 (pc := 100) C dX9_tellRule_100 ?_
          refine r_iconst (pc := 101) (v := nI 2) C dX9_tellRule_101 (by decide) ?_
          refine r_callVv (pc := 102) C rfl dX9_tellRule_102 kX9_294 gF9 jM (tX9_must Z.1 C.w ht (by omega)) rfl rfl (Nat.le_of_ble_eq_true rfl) (by decide) (fun G102 h102 => ?_)
          rw [isB_ff hft.pos.2, if_neg (by decide), fF_p hft.pos.1] at h102
          subst h102
          refine r_aload0 (pc := 105) C dX9_tellRule_105 ?_
          refine gX9_251 (pc := 106) C dX9_tellRule_106 ?_
          refine r_if_le (pc := 109) 113 C dX9_tellRule_109 (by decide) (fun c109 => ?_) (fun c109 => ?_)
          · exact absurd c109 (Int32.not_le.mpr hft.pos.1)
          exact r_return (pc := 112) C dX9_tellRule_112 (⟨hf, Or.inl ⟨t, ht, ht4, hft⟩⟩)
        have sB : ∀ (a : Bool) (G1 : gS), Lv B n R (k + 1) (if a = true then 3 else 1, 0, rel, fw, [], (a, 0, []) :: rs) → tlF G G1 s ∧ pgL G1 s cd qs ∧ rs.length = qs.length ∧ G1.1 20 s = nI rs.length ∧ G1.1 25 s = nI (rlT qs) ∧ 3 * rlT qs ≤ k ∧ 500 * s ≤ cd ∧ cd ≤ 500 * s + k ∧ G1.1 21 (20 * s + rs.length) = bI a ∧ G1.1 100 11 = nI (k + 1) ∧ G1.1 100 12 = nI 0 ∧ G1.1 100 13 = 0 ∧ G1.1 100 31 = nI cd ∧ wsI G1 B n fw (k + 1) ∧ G1.1 100 19 = nI s → WW Z (qv (fun G' => tlP G G' B n R s k)) 95 [some (.ref (ad Z (100))), some (.int (nI (20 * s + rs.length))), none, none, none] [] G1 := by
          intro a G1 hL1 hb
          obtain ⟨m1, m2, m3, m4, m5, m6, m7, m8, m9, m10, m11, m12, m13, m14, m15⟩ := hb
          have hk14 := hL1.1
          obtain ⟨hk1, hk2p⟩ := hTK (k + 1) hk14 hL1.2.1
          have htq := hk1.q
          have e5 : G1.1 5 (k + 1) = G.1 5 (k + 1) := by rw [m1.1.1 5 (by unfold tlS xS; decide)]
          have e6 : G1.1 6 (k + 1) = nI (tkT B n (k + 1)).2.2.1 := by rw [m1.1.1 6 (by unfold tlS xS; decide)]; exact hk2p
          obtain ⟨b, hb40, hkd, hbs, hb12, -, -, hb2, -, -, -, -, -, hb2v⟩ := tkk hk1
          refine r_aload0 (pc := 95) C dX9_tellRule_95 ?_
          refine gX9_254 (pc := 96) C dX9_tellRule_96 ?_
          refine r_eqi m10 ?_
          refine r_istore2 (pc := 99) C dX9_tellRule_99 rfl ?_
          refine r_aload0 (pc := 100) C dX9_tellRule_100 ?_
          refine r_iconst (pc := 101) (v := nI 2) C dX9_tellRule_101 (by decide) ?_
          refine r_callVv (pc := 102) C rfl dX9_tellRule_102 kX9_294 gF9 jM (tX9_must Z.1 C.w m10 (by omega)) rfl rfl (Nat.le_of_ble_eq_true rfl) (by decide) (fun G102 h102 => ?_)
          by_cases h2 : cN (tkT B n (k + 1)).1 = 2
          · obtain ⟨x, hx9, hxv, hvl⟩ := hb2v h2
            have hlv := lv1 hL1 h2 hxv htq
            rw [isB_t m12 (by rw [e5, hkd, hb2.mpr h2]), if_pos rfl] at h102
            subst h102
            by_cases h400 : k + 1 = 400
            · have hR := hlv.1 h400
              rw [nF_4 h400 m12]
              refine r_aload0 (pc := 105) C dX9_tellRule_105 ?_
              refine gX9_251 (pc := 106) C dX9_tellRule_106 ?_
              refine r_eqi (y := nI 2) (by rw [sI_s, upd_o (by decide), sI_s, upd_s]) ?_
              refine r_if_le (pc := 109) 113 C dX9_tellRule_109 (by decide) (fun c109 => ?_) (fun c109 => ?_)
              · exact absurd c109 (by decide)
              exact r_return (pc := 112) C dX9_tellRule_112 (⟨(m1.sl (by decide)).sl (by decide), Or.inl ⟨k + 1, by rw [sI_s, upd_o (by decide), sI_s, upd_o (by decide)]; exact m10, by omega, ⟨2, by decide, by decide, by rw [sI_s, upd_o (by decide), sI_s, upd_s], hR.1, by rw [sI_s, upd_s, hR.2, ← e6]⟩⟩⟩)
            · have hL2 := hlv.2 h400
              rw [nF_g h400]
              refine r_aload0 (pc := 105) C dX9_tellRule_105 ?_
              refine gX9_251 (pc := 106) C dX9_tellRule_106 ?_
              refine r_eqi (y := 0) (by rw [sI_s, upd_o (by decide)]; exact m12) ?_
              refine r_if_le (pc := 109) 113 C dX9_tellRule_109 (by decide) (fun c109 => ?_) (fun c109 => ?_)
              rotate_left
              · exact absurd c109 (fun h => h (by decide))
              refine r_aload0 (pc := 113) C dX9_tellRule_113 ?_
              refine gX9_49 (pc := 114) C dX9_tellRule_114 ?_
              refine r_iload1 (pc := 117) C dX9_tellRule_117 ?_
              refine r_aload0 (pc := 118) C dX9_tellRule_118 ?_
              refine gX9_27 (pc := 119) C dX9_tellRule_119 ?_
              refine r_iload2 (pc := 122) C dX9_tellRule_122 ?_
              refine r_iald (pc := 123) (_) C dX9_tellRule_123 aM7 (rfl) (by omega) ?_
              refine r_eqi (y := nI x) (by rw [sI_o (by decide), m1.1.1 7 (by unfold tlS xS; decide)]; exact hvl) ?_
              refine r_iast (pc := 124) (_) C dX9_tellRule_124 aM22 (rfl) (by omega) ?_
              refine r_aload0 (pc := 125) C dX9_tellRule_125 ?_
              refine gX9_27 (pc := 126) C dX9_tellRule_126 ?_
              refine r_iload2 (pc := 129) C dX9_tellRule_129 ?_
              refine r_iald (pc := 130) (_) C dX9_tellRule_130 aM7 (rfl) (by omega) ?_
              refine r_eqi (y := nI x) (by rw [sI_o (by decide), sI_o (by decide), m1.1.1 7 (by unfold tlS xS; decide)]; exact hvl) ?_
              refine r_aload0 (pc := 131) C dX9_tellRule_131 ?_
              refine gX9_46 (pc := 132) C dX9_tellRule_132 ?_
              refine r_iload1 (pc := 135) C dX9_tellRule_135 ?_
              refine r_iald (pc := 136) (_) C dX9_tellRule_136 aM21 (rfl) (by omega) ?_
              refine r_eqi (y := bI a) (by rw [sI_o (by decide), sI_o (by decide)]; exact m9) ?_
              refine r_if_ne (pc := 137) 144 C dX9_tellRule_137 (by decide) (fun c137 => ?_) (fun c137 => ?_)
              · have ha : a = true := bI_n.mp c137
                subst ha
                refine r_iconst (pc := 144) (v := nI 3) C dX9_tellRule_144 (by decide) ?_
                refine r_icmp_le (pc := 145) 154 C dX9_tellRule_145 (by decide) (fun c145 => ?_) (fun c145 => ?_)
                · have hbb : tlF G (sI (sI G1 100 11 (nI (k + 2))) 22 (20 * s + rs.length) (nI x)) s ∧ pgL (sI (sI G1 100 11 (nI (k + 2))) 22 (20 * s + rs.length) (nI x)) s cd qs := ⟨(m1.sl (by decide)).wr (by decide) h20, pgL.ext (Nat.le_refl _) (by omega) (fun j _ _ => by rw [sI_o (by decide), sI_o (by decide), sI_o (by decide), sI_o (by decide)]; exact ⟨rfl, rfl⟩) m2 (fun q qa qb j ja jb => by
                    by_cases e : q = 22
                    · subst e; rw [sI_s, upd_o (by omega), sI_o (by decide)]
                    · rw [sI_o e, sI_o (by omega)]) (fun q qa qb j _ _ => by rw [sI_o (by omega), sI_o (by omega)])⟩
                  have hnw : nI x < (if true = true then nI 4 else nI 6) := by
                    have := (nI_leI (by omega) (by decide)).mp c145
                    exact nI_lt (b := 4) (by omega) (by decide)
                  rw [show (if ¬ nI x < (if true = true then nI 4 else nI 6) ∧ fw = -1 then nI (tkT B n (k + 1)).2.2.1 else fw) = fw from if_neg (fun z => z.1 hnw)] at hL2
                  exact sC true x fw _ hx9 hL2 ⟨hbb.1, hbb.2, m3, by rw [sI_o (by decide), sI_o (by decide)]; exact m4, by rw [sI_o (by decide), sI_o (by decide)]; exact m5, m6, m7, m8, by rw [sI_o (by decide), sI_o (by decide)]; exact m9, by rw [sI_s, upd_s], by rw [sI_o (by decide), sI_s, upd_s], by rw [sI_o (by decide), sI_s, upd_o (by decide)]; exact m11, by rw [sI_o (by decide), sI_s, upd_o (by decide)]; exact m12, by rw [sI_o (by decide), sI_s, upd_o (by decide)]; exact m13, m14.mono (by omega) (by rw [sI_o (by decide), sI_s, upd_o (by decide)]) (by rw [sI_o (by decide), sI_s, upd_o (by decide)]), by rw [sI_o (by decide), sI_s, upd_o (by decide)]; exact m15⟩
                · refine r_aload0 (pc := 148) C dX9_tellRule_148 ?_
                  refine r_iconst (pc := 149) (v := nI 5) C dX9_tellRule_149 (by decide) ?_
                  refine r_iload2 (pc := 150) C dX9_tellRule_150 ?_
                  refine r_callVv (pc := 151) C rfl dX9_tellRule_151 kX9_297 gF9 jM (tX9_wrong Z.1 C.w (j := k + 1) (by omega) (by rw [sI_o (by decide), sI_s, upd_o (by decide)]; exact m12) (by
                rw [sI_o (by decide), sI_s, upd_o (by decide), upd_o (by decide), sI_o (by decide), sI_o (by decide)]
                rcases m14 with ⟨w1, w2⟩ | ⟨j, w1, w2, w3, w4⟩
                · exact Or.inl w2
                · right
                  rw [w4, w2, e6]
                  exact nI_lt (pl_lt (by omega) hL1.2.1) (by have := pl_n B n (k + 1); omega))) rfl rfl (Nat.le_of_ble_eq_true rfl) (by decide) (fun G151 h151 => ?_)
                  subst h151
                  have hbb : tlF G (sI (sI G1 100 11 (nI (k + 2))) 22 (20 * s + rs.length) (nI x)) s ∧ pgL (sI (sI G1 100 11 (nI (k + 2))) 22 (20 * s + rs.length) (nI x)) s cd qs := ⟨(m1.sl (by decide)).wr (by decide) h20, pgL.ext (Nat.le_refl _) (by omega) (fun j _ _ => by rw [sI_o (by decide), sI_o (by decide), sI_o (by decide), sI_o (by decide)]; exact ⟨rfl, rfl⟩) m2 (fun q qa qb j ja jb => by
                    by_cases e : q = 22
                    · subst e; rw [sI_s, upd_o (by omega), sI_o (by decide)]
                    · rw [sI_o e, sI_o (by omega)]) (fun q qa qb j _ _ => by rw [sI_o (by omega), sI_o (by omega)])⟩
                  have hnw : ¬ nI x < (if true = true then nI 4 else nI 6) := fun z => c145 (nI_le (by have := (nI_ltI (a := x) (b := 4) (by omega) (by decide)).mp z; omega) (by decide))
                  have e15 : (sI (sI G1 100 11 (nI (k + 2))) 22 (20 * s + rs.length) (nI x)).1 100 15 = G1.1 100 15 := by rw [sI_o (by decide), sI_s, upd_o (by decide)]
                  rcases m14 with ⟨w1, w2⟩ | ⟨j, w1, w2, w3, w4⟩
                  · rw [show (if ¬ nI x < (if true = true then nI 4 else nI 6) ∧ fw = -1 then nI (tkT B n (k + 1)).2.2.1 else fw) = nI (tkT B n (k + 1)).2.2.1 from if_pos ⟨hnw, w1⟩] at hL2
                    rw [if_pos (by rw [e15]; exact w2)]
                    refine sC true x (nI (tkT B n (k + 1)).2.2.1) _ hx9 hL2 ⟨(hbb.1.sl (by decide)).sl (by decide), pgL.s (by omega) (pgL.s (by omega) hbb.2), ?_⟩
                    refine ⟨m3, ?_, ?_, m6, m7, m8, ?_, ?_, ?_, ?_, ?_, ?_, Or.inr ⟨k + 1, by omega, rfl, ?_, ?_⟩, ?_⟩
                    · rw [sI_o (by decide), sI_o (by decide), sI_o (by decide), sI_o (by decide)]; exact m4
                    · rw [sI_o (by decide), sI_o (by decide), sI_o (by decide), sI_o (by decide)]; exact m5
                    · rw [sI_o (by decide), sI_o (by decide), sI_o (by decide), sI_o (by decide)]; exact m9
                    · rw [sI_o (by decide), sI_o (by decide), sI_s, upd_s]
                    · rw [sI_s, upd_o (by decide), sI_s, upd_o (by decide), sI_o (by decide), sI_s, upd_s]
                    · rw [sI_s, upd_o (by decide), sI_s, upd_o (by decide), sI_o (by decide), sI_s, upd_o (by decide)]; exact m11
                    · rw [sI_s, upd_o (by decide), sI_s, upd_o (by decide), sI_o (by decide), sI_s, upd_o (by decide)]; exact m12
                    · rw [sI_s, upd_o (by decide), sI_s, upd_o (by decide), sI_o (by decide), sI_s, upd_o (by decide)]; exact m13
                    · rw [sI_s, upd_o (by decide), sI_s, upd_s]
                    · rw [sI_s, upd_s, sI_o (by decide), sI_o (by decide)]; exact e6
                    · rw [sI_s, upd_o (by decide), sI_s, upd_o (by decide), sI_o (by decide), sI_s, upd_o (by decide)]; exact m15
                  · have hfw : ¬ fw = -1 := by rw [w2]; exact nI_m1 (by have := pl_n B n j; omega)
                    rw [show (if ¬ nI x < (if true = true then nI 4 else nI 6) ∧ fw = -1 then nI (tkT B n (k + 1)).2.2.1 else fw) = fw from if_neg (fun z => hfw z.2)] at hL2
                    rw [if_neg (by rw [e15, w3]; decide)]
                    exact sC true x fw _ hx9 hL2 ⟨hbb.1, hbb.2, m3, by rw [sI_o (by decide), sI_o (by decide)]; exact m4, by rw [sI_o (by decide), sI_o (by decide)]; exact m5, m6, m7, m8, by rw [sI_o (by decide), sI_o (by decide)]; exact m9, by rw [sI_s, upd_s], by rw [sI_o (by decide), sI_s, upd_s], by rw [sI_o (by decide), sI_s, upd_o (by decide)]; exact m11, by rw [sI_o (by decide), sI_s, upd_o (by decide)]; exact m12, by rw [sI_o (by decide), sI_s, upd_o (by decide)]; exact m13, Or.inr ⟨j, by omega, w2, by rw [e15]; exact w3, by rw [sI_o (by decide), sI_s, upd_o (by decide)]; exact w4⟩, by rw [sI_o (by decide), sI_s, upd_o (by decide)]; exact m15⟩
              · have ha : a = false := bI_z.mp c137
                subst ha
                refine r_iconst (pc := 140) (v := nI 5) C dX9_tellRule_140 (by decide) ?_
                refine r_goto (pc := 141) 145 C dX9_tellRule_141 (by decide) ?_
                refine r_icmp_le (pc := 145) 154 C dX9_tellRule_145 (by decide) (fun c145 => ?_) (fun c145 => ?_)
                · have hbb : tlF G (sI (sI G1 100 11 (nI (k + 2))) 22 (20 * s + rs.length) (nI x)) s ∧ pgL (sI (sI G1 100 11 (nI (k + 2))) 22 (20 * s + rs.length) (nI x)) s cd qs := ⟨(m1.sl (by decide)).wr (by decide) h20, pgL.ext (Nat.le_refl _) (by omega) (fun j _ _ => by rw [sI_o (by decide), sI_o (by decide), sI_o (by decide), sI_o (by decide)]; exact ⟨rfl, rfl⟩) m2 (fun q qa qb j ja jb => by
                    by_cases e : q = 22
                    · subst e; rw [sI_s, upd_o (by omega), sI_o (by decide)]
                    · rw [sI_o e, sI_o (by omega)]) (fun q qa qb j _ _ => by rw [sI_o (by omega), sI_o (by omega)])⟩
                  have hnw : nI x < (if false = true then nI 4 else nI 6) := by
                    have := (nI_leI (by omega) (by decide)).mp c145
                    exact nI_lt (b := 6) (by omega) (by decide)
                  rw [show (if ¬ nI x < (if false = true then nI 4 else nI 6) ∧ fw = -1 then nI (tkT B n (k + 1)).2.2.1 else fw) = fw from if_neg (fun z => z.1 hnw)] at hL2
                  exact sC false x fw _ hx9 hL2 ⟨hbb.1, hbb.2, m3, by rw [sI_o (by decide), sI_o (by decide)]; exact m4, by rw [sI_o (by decide), sI_o (by decide)]; exact m5, m6, m7, m8, by rw [sI_o (by decide), sI_o (by decide)]; exact m9, by rw [sI_s, upd_s], by rw [sI_o (by decide), sI_s, upd_s], by rw [sI_o (by decide), sI_s, upd_o (by decide)]; exact m11, by rw [sI_o (by decide), sI_s, upd_o (by decide)]; exact m12, by rw [sI_o (by decide), sI_s, upd_o (by decide)]; exact m13, m14.mono (by omega) (by rw [sI_o (by decide), sI_s, upd_o (by decide)]) (by rw [sI_o (by decide), sI_s, upd_o (by decide)]), by rw [sI_o (by decide), sI_s, upd_o (by decide)]; exact m15⟩
                · refine r_aload0 (pc := 148) C dX9_tellRule_148 ?_
                  refine r_iconst (pc := 149) (v := nI 5) C dX9_tellRule_149 (by decide) ?_
                  refine r_iload2 (pc := 150) C dX9_tellRule_150 ?_
                  refine r_callVv (pc := 151) C rfl dX9_tellRule_151 kX9_297 gF9 jM (tX9_wrong Z.1 C.w (j := k + 1) (by omega) (by rw [sI_o (by decide), sI_s, upd_o (by decide)]; exact m12) (by
                rw [sI_o (by decide), sI_s, upd_o (by decide), upd_o (by decide), sI_o (by decide), sI_o (by decide)]
                rcases m14 with ⟨w1, w2⟩ | ⟨j, w1, w2, w3, w4⟩
                · exact Or.inl w2
                · right
                  rw [w4, w2, e6]
                  exact nI_lt (pl_lt (by omega) hL1.2.1) (by have := pl_n B n (k + 1); omega))) rfl rfl (Nat.le_of_ble_eq_true rfl) (by decide) (fun G151 h151 => ?_)
                  subst h151
                  have hbb : tlF G (sI (sI G1 100 11 (nI (k + 2))) 22 (20 * s + rs.length) (nI x)) s ∧ pgL (sI (sI G1 100 11 (nI (k + 2))) 22 (20 * s + rs.length) (nI x)) s cd qs := ⟨(m1.sl (by decide)).wr (by decide) h20, pgL.ext (Nat.le_refl _) (by omega) (fun j _ _ => by rw [sI_o (by decide), sI_o (by decide), sI_o (by decide), sI_o (by decide)]; exact ⟨rfl, rfl⟩) m2 (fun q qa qb j ja jb => by
                    by_cases e : q = 22
                    · subst e; rw [sI_s, upd_o (by omega), sI_o (by decide)]
                    · rw [sI_o e, sI_o (by omega)]) (fun q qa qb j _ _ => by rw [sI_o (by omega), sI_o (by omega)])⟩
                  have hnw : ¬ nI x < (if false = true then nI 4 else nI 6) := fun z => c145 (nI_le (by have := (nI_ltI (a := x) (b := 6) (by omega) (by decide)).mp z; omega) (by decide))
                  have e15 : (sI (sI G1 100 11 (nI (k + 2))) 22 (20 * s + rs.length) (nI x)).1 100 15 = G1.1 100 15 := by rw [sI_o (by decide), sI_s, upd_o (by decide)]
                  rcases m14 with ⟨w1, w2⟩ | ⟨j, w1, w2, w3, w4⟩
                  · rw [show (if ¬ nI x < (if false = true then nI 4 else nI 6) ∧ fw = -1 then nI (tkT B n (k + 1)).2.2.1 else fw) = nI (tkT B n (k + 1)).2.2.1 from if_pos ⟨hnw, w1⟩] at hL2
                    rw [if_pos (by rw [e15]; exact w2)]
                    refine sC false x (nI (tkT B n (k + 1)).2.2.1) _ hx9 hL2 ⟨(hbb.1.sl (by decide)).sl (by decide), pgL.s (by omega) (pgL.s (by omega) hbb.2), ?_⟩
                    refine ⟨m3, ?_, ?_, m6, m7, m8, ?_, ?_, ?_, ?_, ?_, ?_, Or.inr ⟨k + 1, by omega, rfl, ?_, ?_⟩, ?_⟩
                    · rw [sI_o (by decide), sI_o (by decide), sI_o (by decide), sI_o (by decide)]; exact m4
                    · rw [sI_o (by decide), sI_o (by decide), sI_o (by decide), sI_o (by decide)]; exact m5
                    · rw [sI_o (by decide), sI_o (by decide), sI_o (by decide), sI_o (by decide)]; exact m9
                    · rw [sI_o (by decide), sI_o (by decide), sI_s, upd_s]
                    · rw [sI_s, upd_o (by decide), sI_s, upd_o (by decide), sI_o (by decide), sI_s, upd_s]
                    · rw [sI_s, upd_o (by decide), sI_s, upd_o (by decide), sI_o (by decide), sI_s, upd_o (by decide)]; exact m11
                    · rw [sI_s, upd_o (by decide), sI_s, upd_o (by decide), sI_o (by decide), sI_s, upd_o (by decide)]; exact m12
                    · rw [sI_s, upd_o (by decide), sI_s, upd_o (by decide), sI_o (by decide), sI_s, upd_o (by decide)]; exact m13
                    · rw [sI_s, upd_o (by decide), sI_s, upd_s]
                    · rw [sI_s, upd_s, sI_o (by decide), sI_o (by decide)]; exact e6
                    · rw [sI_s, upd_o (by decide), sI_s, upd_o (by decide), sI_o (by decide), sI_s, upd_o (by decide)]; exact m15
                  · have hfw : ¬ fw = -1 := by rw [w2]; exact nI_m1 (by have := pl_n B n j; omega)
                    rw [show (if ¬ nI x < (if false = true then nI 4 else nI 6) ∧ fw = -1 then nI (tkT B n (k + 1)).2.2.1 else fw) = fw from if_neg (fun z => hfw z.2)] at hL2
                    rw [if_neg (by rw [e15, w3]; decide)]
                    exact sC false x fw _ hx9 hL2 ⟨hbb.1, hbb.2, m3, by rw [sI_o (by decide), sI_o (by decide)]; exact m4, by rw [sI_o (by decide), sI_o (by decide)]; exact m5, m6, m7, m8, by rw [sI_o (by decide), sI_o (by decide)]; exact m9, by rw [sI_s, upd_s], by rw [sI_o (by decide), sI_s, upd_s], by rw [sI_o (by decide), sI_s, upd_o (by decide)]; exact m11, by rw [sI_o (by decide), sI_s, upd_o (by decide)]; exact m12, by rw [sI_o (by decide), sI_s, upd_o (by decide)]; exact m13, Or.inr ⟨j, by omega, w2, by rw [e15]; exact w3, by rw [sI_o (by decide), sI_s, upd_o (by decide)]; exact w4⟩, by rw [sI_o (by decide), sI_s, upd_o (by decide)]; exact m15⟩
          · rw [isB_f (by rw [e5, hkd]; exact nI_dj (fun z => h2 (hb2.mp z)) (by omega) (by decide)), if_neg (by decide), fF_0 m12] at h102
            subst h102
            have hR := lv1_bad hL1 h2
            refine r_aload0 (pc := 105) C dX9_tellRule_105 ?_
            refine gX9_251 (pc := 106) C dX9_tellRule_106 ?_
            refine r_eqi (y := nI 1) (by rw [sI_s, upd_o (by decide), sI_s, upd_s]) ?_
            refine r_if_le (pc := 109) 113 C dX9_tellRule_109 (by decide) (fun c109 => ?_) (fun c109 => ?_)
            · exact absurd c109 (by decide)
            exact r_return (pc := 112) C dX9_tellRule_112 (⟨(m1.sl (by decide)).sl (by decide), Or.inl ⟨k + 1, by rw [sI_s, upd_o (by decide), sI_s, upd_o (by decide)]; exact m10, by omega, ⟨1, by decide, by decide, by rw [sI_s, upd_o (by decide), sI_s, upd_s], hR.1, by rw [sI_s, upd_s, hR.2, ← e6]⟩⟩⟩)
        refine r_aload0 (pc := 45) C dX9_tellRule_45 ?_
        refine gX9_251 (pc := 46) C dX9_tellRule_46 ?_
        refine r_eqi i11 ?_
        refine r_if_le (pc := 49) 53 C dX9_tellRule_49 (by decide) (fun c49 => ?_) (fun c49 => ?_)
        rotate_left
        · exact absurd c49 (fun h => h (by decide))
        refine r_bipush (pc := 53) (v := nI 20) C dX9_tellRule_53 (by decide) ?_
        refine r_aload0 (pc := 55) C dX9_tellRule_55 ?_
        refine gX9_281 (pc := 56) C dX9_tellRule_56 ?_
        refine r_eqi i14 ?_
        refine r_imul (pc := 59) C dX9_tellRule_59 ?_
        refine r_eqi (pk_mul 20 s) ?_
        refine r_aload0 (pc := 60) C dX9_tellRule_60 ?_
        refine gX9_43 (pc := 61) C dX9_tellRule_61 ?_
        refine r_aload0 (pc := 64) C dX9_tellRule_64 ?_
        refine gX9_281 (pc := 65) C dX9_tellRule_65 ?_
        refine r_eqi i14 ?_
        refine r_iald (pc := 68) (_) C dX9_tellRule_68 aM20 (rfl) (by omega) ?_
        refine r_eqi i4 ?_
        refine r_iadd (pc := 69) C dX9_tellRule_69 ?_
        refine r_eqi (nI_add _ _) ?_
        refine r_istore1 (pc := 70) C dX9_tellRule_70 rfl ?_
        refine r_aload0 (pc := 71) C dX9_tellRule_71 ?_
        refine gX9_46 (pc := 72) C dX9_tellRule_72 ?_
        refine r_iload1 (pc := 75) C dX9_tellRule_75 ?_
        refine r_aload0 (pc := 76) C dX9_tellRule_76 ?_
        refine r_bipush (pc := 77) (v := nI 20) C dX9_tellRule_77 (by decide) ?_
        refine r_callVi (pc := 79) C rfl dX9_tellRule_79 kX9_269 gF9 jM (tX9_is Z.1 C.w i9 (by omega)) rfl rfl (Nat.le_of_ble_eq_true rfl) (by decide) (fun x79 G79 h79 => ?_)
        obtain ⟨rfl, h79b⟩ := h79
        have h79b := h79b.symm
        subst h79b
        rw [isB_f (by rw [hkd]; exact nI_dj (by omega) (by omega) (by decide))]
        refine r_if_eq (pc := 82) 89 C dX9_tellRule_82 (by decide) (fun c82 => ?_) (fun c82 => ?_)
        rotate_left
        · exact absurd c82 (fun h => h rfl)
        refine r_iconst (pc := 89) (v := nI 1) C dX9_tellRule_89 (by decide) ?_
        refine r_eqi (y := bI true) rfl ?_
        refine r_iast (pc := 90) (_) C dX9_tellRule_90 aM21 (rfl) (by omega) ?_
        refine r_aload0 (pc := 91) C dX9_tellRule_91 ?_
        refine r_callVv (pc := 92) C rfl dX9_tellRule_92 kX9_272 gF9 jM (tX9_next Z.1 C.w (t := k) (by rw [sI_o (by decide)]; exact i9) (by omega)) rfl rfl (Nat.le_of_ble_eq_true rfl) (by decide) (fun G92 h92 => ?_)
        subst h92
        have htl : tlF G (sI G 21 (20 * s + rs.length) (bI true)) s := tlF.refl.wr (by decide) h20
        have hpg : pgL (sI G 21 (20 * s + rs.length) (bI true)) s cd qs := pgL.ext (Nat.le_refl _) (by omega) (fun j _ _ => by rw [sI_o (by decide), sI_o (by decide)]; exact ⟨rfl, rfl⟩) i3 (fun q qa qb j ja jb => by
          by_cases e : q = 21
          · subst e; rw [sI_s, upd_o (by omega)]
          · rw [sI_o e]) (fun q qa qb j _ _ => by rw [sI_o (by omega)])
        by_cases h400 : k = 400
        · have hR := hlv.1 (Or.inr h400)
          have e62 : (sI G 21 (20 * s + rs.length) (bI true)).1 6 k = nI (tkT B n k).2.2.1 := by rw [sI_o (by decide)]; exact e6
          rw [nF_4 h400 (by rw [sI_o (by decide)]; exact i11)]
          exact finN k _ ((htl.sl (by decide)).sl (by decide)) (by rw [sI_s, upd_o (by decide), sI_s, upd_o (by decide), sI_o (by decide)]; exact i9) (by omega) ⟨2, by decide, by decide, by rw [sI_s, upd_o (by decide), sI_s, upd_s], hR.1, by rw [sI_s, upd_s, hR.2, ← e62]⟩
        · rw [nF_g h400]
          refine sB true _ (hlv.2 h20 h400) ⟨htl.sl (by decide), pgL.s (by omega) hpg, hlen, ?_, ?_, i6, i7, i8, ?_, ?_, ?_, ?_, ?_, ?_, ?_⟩
          · rw [sI_o (by decide), sI_o (by decide)]; exact i4
          · rw [sI_o (by decide), sI_o (by decide)]; exact i5
          · rw [sI_o (by decide), sI_s, upd_s]
          · rw [sI_s, upd_s]
          · rw [sI_s, upd_o (by decide), sI_o (by decide)]; exact i10
          · rw [sI_s, upd_o (by decide), sI_o (by decide)]; exact i11
          · rw [sI_s, upd_o (by decide), sI_o (by decide)]; exact i12
          · exact i13.mono (by omega) (by rw [sI_s, upd_o (by decide), sI_o (by decide)]) (by rw [sI_s, upd_o (by decide), sI_o (by decide)])
          · rw [sI_s, upd_o (by decide), sI_o (by decide)]; exact i14
      · have h20 : rs.length = 20 := (nI_eq (by have h1 : rs.length ≤ 20 := i1.2.2.1.2.2.2.1; omega) (by decide)).mp c37
        have hR := hlv.1 (Or.inl (by omega))
        refine r_aload0 (pc := 40) C dX9_tellRule_40 ?_
        refine r_iconst (pc := 41) (v := nI 2) C dX9_tellRule_41 (by decide) ?_
        refine r_callVv (pc := 42) C rfl dX9_tellRule_42 kX9_266 gF9 jM (tX9_fail Z.1 C.w i9 (by omega)) rfl rfl (Nat.le_of_ble_eq_true rfl) (by decide) (fun G42 h42 => ?_)
        rw [fF_0 i11] at h42
        subst h42
        refine r_aload0 (pc := 45) C dX9_tellRule_45 ?_
        refine gX9_251 (pc := 46) C dX9_tellRule_46 ?_
        refine r_eqi (y := nI 2) (by rw [sI_s, upd_o (by decide), sI_s, upd_s]) ?_
        refine r_if_le (pc := 49) 53 C dX9_tellRule_49 (by decide) (fun c49 => ?_) (fun c49 => ?_)
        · exact absurd c49 (by decide)
        exact r_return (pc := 52) C dX9_tellRule_52 (⟨(tlF.refl.sl (by decide)).sl (by decide), Or.inl ⟨k, by rw [sI_s, upd_o (by decide), sI_s, upd_o (by decide)]; exact i9, by omega, ⟨2, by decide, by decide, by rw [sI_s, upd_o (by decide), sI_s, upd_s], hR.1, by rw [sI_s, upd_s, hR.2, ← e6]⟩⟩⟩)
    · have hR := lv0_bad i1 (fun z => hnz (by rw [hbs, z])) (fun z => h20k (hb20.mpr z)) (fun z => h22k (hb22.mpr z))
      refine r_aload0 (pc := 0) C dX9_tellRule_0 ?_
      refine r_bipush (pc := 1) (v := nI 20) C dX9_tellRule_1 (by decide) ?_
      refine r_callVi (pc := 3) C rfl dX9_tellRule_3 kX9_269 gF9 jM (tX9_is Z.1 C.w i9 (by omega)) rfl rfl (Nat.le_of_ble_eq_true rfl) (by decide) (fun x3 G3 h3 => ?_)
      obtain ⟨rfl, h3b⟩ := h3
      have h3b := h3b.symm
      subst h3b
      rw [isB_f (by rw [hkd]; exact nI_dj (by omega) (by omega) (by decide))]
      refine r_if_ne (pc := 6) 26 C dX9_tellRule_6 (by decide) (fun c6 => ?_) (fun c6 => ?_)
      · exact absurd c6 (fun h => h rfl)
      refine r_aload0 (pc := 9) C dX9_tellRule_9 ?_
      refine r_bipush (pc := 10) (v := nI 22) C dX9_tellRule_10 (by decide) ?_
      refine r_callVi (pc := 12) C rfl dX9_tellRule_12 kX9_269 gF9 jM (tX9_is Z.1 C.w i9 (by omega)) rfl rfl (Nat.le_of_ble_eq_true rfl) (by decide) (fun x12 G12 h12 => ?_)
      obtain ⟨rfl, h12b⟩ := h12
      have h12b := h12b.symm
      subst h12b
      rw [isB_f (by rw [hkd]; exact nI_dj (by omega) (by omega) (by decide))]
      refine r_if_ne (pc := 15) 26 C dX9_tellRule_15 (by decide) (fun c15 => ?_) (fun c15 => ?_)
      · exact absurd c15 (fun h => h rfl)
      refine r_aload0 (pc := 18) C dX9_tellRule_18 ?_
      refine r_iconst (pc := 19) (v := nI 1) C dX9_tellRule_19 (by decide) ?_
      refine r_callVv (pc := 20) C rfl dX9_tellRule_20 kX9_266 gF9 jM (tX9_fail Z.1 C.w i9 (by omega)) rfl rfl (Nat.le_of_ble_eq_true rfl) (by decide) (fun G20 h20x => ?_)
      rw [fF_0 i11] at h20x
      subst h20x
      refine r_goto (pc := 23) 45 C dX9_tellRule_23 (by decide) ?_
      refine r_aload0 (pc := 45) C dX9_tellRule_45 ?_
      refine gX9_251 (pc := 46) C dX9_tellRule_46 ?_
      refine r_eqi (y := nI 1) (by rw [sI_s, upd_o (by decide), sI_s, upd_s]) ?_
      refine r_if_le (pc := 49) 53 C dX9_tellRule_49 (by decide) (fun c49 => ?_) (fun c49 => ?_)
      · exact absurd c49 (by decide)
      exact r_return (pc := 52) C dX9_tellRule_52 (⟨(tlF.refl.sl (by decide)).sl (by decide), Or.inl ⟨k, by rw [sI_s, upd_o (by decide), sI_s, upd_o (by decide)]; exact i9, by omega, ⟨1, by decide, by decide, by rw [sI_s, upd_o (by decide), sI_s, upd_s], hR.1, by rw [sI_s, upd_s, hR.2, ← e6]⟩⟩⟩)
