/-! each call of the two side by side: their contracts, and that the answers are one and they stay side by side -/
def prP (PC PM : Int32 → gS → Prop) : Prop := ∀ x GC' y GM', PC x GC' → PM y GM' → x = y ∧ RR GC' GM'
theorem pr_feed {GC GM : gS} (hRR : RR GC GM) {YC YM : gY} (hC : YC.2.2.2 = wC) (hM : YM.2.2.2 = wM) (a1 a2 a3 a4 a5 : Int32) : ∃ PC PM : Int32 → gS → Prop, (∀ l, gM YC l yX8_feed cX8_feed 6 (some .int) (1, 22) [.ref (YC.2.1 0), .int a1, .int a2, .int a3, .int a4, .int a5] GC (qi PC)) ∧ (∀ l, gM YM l yX9_feed cX9_feed 6 (some .int) (1, 22) [.ref (YM.2.1 100), .int a1, .int a2, .int a3, .int a4, .int a5] GM (qi PM)) ∧ prP PC PM := by
  have hRR0 := hRR
  obtain ⟨mc, fc, wd, nf, jk, nk, lv, st, n, jr, ht, hr, ho⟩ := hRR0
  exact ⟨_, _, tX8_feed YC hC ho.1.1.1 ho.1.1.2.1, tX9_feed YM hM ho.1.2.2.1 ho.1.1.2.1, fun x GC' y GM' h1 h2 => st_feed ht hr ho h1 h2⟩
theorem pr_back {GC GM : gS} (hRR : RR GC GM) {YC YM : gY} (hC : YC.2.2.2 = wC) (hM : YM.2.2.2 = wM) (a1 : Int32) : ∃ PC PM : Int32 → gS → Prop, (∀ l, gM YC l yX8_back cX8_back 2 (some .int) (0, 0) [.ref (YC.2.1 0), .int a1] GC (qi PC)) ∧ (∀ l, gM YM l yX9_back cX9_back 2 (some .int) (0, 0) [.ref (YM.2.1 100), .int a1] GM (qi PM)) ∧ prP PC PM := by
  have hRR0 := hRR
  obtain ⟨mc, fc, wd, nf, jk, nk, lv, st, n, jr, ht, hr, ho⟩ := hRR0
  exact ⟨_, _, tX8_back YC hC , tX9_back YM hM , fun x GC' y GM' h1 h2 => st_back ht hr ho h1 h2⟩
theorem pr_read {GC GM : gS} (hRR : RR GC GM) {YC YM : gY} (hC : YC.2.2.2 = wC) (hM : YM.2.2.2 = wM) (a1 : Int32) : ∃ PC PM : Int32 → gS → Prop, (∀ l, gM YC l yX8_read cX8_read 3 (some .int) (5, 107) [.ref (YC.2.1 0), .int a1] GC (qi PC)) ∧ (∀ l, gM YM l yX9_read cX9_read 3 (some .int) (5, 117) [.ref (YM.2.1 100), .int a1] GM (qi PM)) ∧ prP PC PM := by
  have hRR0 := hRR
  obtain ⟨mc, fc, wd, nf, jk, nk, lv, st, n, jr, ht, hr, ho⟩ := hRR0
  by_cases hb : belB a1 (nI 2) = true
  · have hz : cN a1 < 2 := by obtain ⟨z, q1, rfl⟩ := belB_t hb (by decide); rw [cN_nI (by omega)]; exact q1
    exact ⟨_, _, tX8_read YC hC ho.1.1 ho.2.2.2.2.1 ho.2.2.2.1 ht.2.2.2.2.2.2.2.2.2.2.2.2.1, tX9_read YM hM (B := tB GC) (lv := lv (cN a1)) ho.1.2.2.1 ho.1.1.2.1 ho.1.2.2.2 ho.1.2.1 ho.2.2.1 (fun _ => (ht.2.2.2.2.2.2.2.2.2.2.2.2.2 _ hz).1) (ht.2.2.2.2.2.2.2.2.2.2.2.2.2 _ hz).2.1, fun x GC' y GM' h1 h2 => st_read ht hr ho h1 h2⟩
  · exact ⟨_, _, tX8_read YC hC ho.1.1 ho.2.2.2.2.1 ho.2.2.2.1 ht.2.2.2.2.2.2.2.2.2.2.2.2.1, tX9_read YM hM (B := tB GC) (lv := 0) ho.1.2.2.1 ho.1.1.2.1 ho.1.2.2.2 ho.1.2.1 ho.2.2.1 (fun h => absurd h hb) (by decide), fun x GC' y GM' h1 h2 => st_read ht hr ho h1 (by rw [if_neg hb] at h2 ⊢; exact h2)⟩
theorem pr_place {GC GM : gS} (hRR : RR GC GM) {YC YM : gY} (hC : YC.2.2.2 = wC) (hM : YM.2.2.2 = wM) : ∃ PC PM : Int32 → gS → Prop, (∀ l, gM YC l yX8_place cX8_place 1 (some .int) (0, 0) [.ref (YC.2.1 0)] GC (qi PC)) ∧ (∀ l, gM YM l yX9_place cX9_place 1 (some .int) (0, 0) [.ref (YM.2.1 100)] GM (qi PM)) ∧ prP PC PM := by
  have hRR0 := hRR
  obtain ⟨mc, fc, wd, nf, jk, nk, lv, st, n, jr, ht, hr, ho⟩ := hRR0
  exact ⟨_, _, tX8_place YC hC , tX9_place YM hM , fun x GC' y GM' h1 h2 => st_place ho hRR h1 h2⟩
theorem pr_machine {GC GM : gS} (hRR : RR GC GM) {YC YM : gY} (hC : YC.2.2.2 = wC) (hM : YM.2.2.2 = wM) (a1 a2 a3 : Int32) : ∃ PC PM : Int32 → gS → Prop, (∀ l, gM YC l yX8_machine cX8_machine 4 (some .int) (1, 24) [.ref (YC.2.1 0), .int a1, .int a2, .int a3] GC (qi PC)) ∧ (∀ l, gM YM l yX9_machine cX9_machine 4 (some .int) (0, 0) [.ref (YM.2.1 100), .int a1, .int a2, .int a3] GM (qi PM)) ∧ prP PC PM := by
  have hRR0 := hRR
  obtain ⟨mc, fc, wd, nf, jk, nk, lv, st, n, jr, ht, hr, ho⟩ := hRR0
  exact ⟨_, _, tX8_machine YC hC ht.1.1 ht.1.2.2, tX9_machine YM hM ht.1.2.1 ht.1.2.2, fun x GC' y GM' h1 h2 => st_machine ht hr ho h1 h2⟩
theorem pr_file {GC GM : gS} (hRR : RR GC GM) {YC YM : gY} (hC : YC.2.2.2 = wC) (hM : YM.2.2.2 = wM) (a1 a2 : Int32) : ∃ PC PM : Int32 → gS → Prop, (∀ l, gM YC l yX8_file cX8_file 3 (some .int) (1, 22) [.ref (YC.2.1 0), .int a1, .int a2] GC (qi PC)) ∧ (∀ l, gM YM l yX9_file cX9_file 3 (some .int) (0, 0) [.ref (YM.2.1 100), .int a1, .int a2] GM (qi PM)) ∧ prP PC PM := by
  have hRR0 := hRR
  obtain ⟨mc, fc, wd, nf, jk, nk, lv, st, n, jr, ht, hr, ho⟩ := hRR0
  exact ⟨_, _, tX8_file YC hC ht.2.1.1 ht.2.1.2.2, tX9_file YM hM ht.2.1.2.1 ht.2.1.2.2, fun x GC' y GM' h1 h2 => st_file ht hr ho h1 h2⟩
theorem pr_width {GC GM : gS} (hRR : RR GC GM) {YC YM : gY} (hC : YC.2.2.2 = wC) (hM : YM.2.2.2 = wM) (a1 : Int32) : ∃ PC PM : Int32 → gS → Prop, (∀ l, gM YC l yX8_width cX8_width 2 (some .boolean) (0, 0) [.ref (YC.2.1 0), .int a1] GC (qi PC)) ∧ (∀ l, gM YM l yX9_width cX9_width 2 (some .boolean) (0, 0) [.ref (YM.2.1 100), .int a1] GM (qi PM)) ∧ prP PC PM := by
  have hRR0 := hRR
  obtain ⟨mc, fc, wd, nf, jk, nk, lv, st, n, jr, ht, hr, ho⟩ := hRR0
  exact ⟨_, _, tX8_width YC hC , tX9_width YM hM , fun x GC' y GM' h1 h2 => st_width ht hr ho h1 h2⟩
theorem pr_wake {GC GM : gS} (hRR : RR GC GM) {YC YM : gY} (hC : YC.2.2.2 = wC) (hM : YM.2.2.2 = wM) (a1 a2 : Int32) : ∃ PC PM : Int32 → gS → Prop, (∀ l, gM YC l yX8_wake cX8_wake 3 (some .boolean) (1, 21) [.ref (YC.2.1 0), .int a1, .int a2] GC (qi PC)) ∧ (∀ l, gM YM l yX9_wake cX9_wake 3 (some .boolean) (1, 20) [.ref (YM.2.1 100), .int a1, .int a2] GM (qi PM)) ∧ prP PC PM := by
  have hRR0 := hRR
  obtain ⟨mc, fc, wd, nf, jk, nk, lv, st, n, jr, ht, hr, ho⟩ := hRR0
  exact ⟨_, _, tX8_wake YC hC , tX9_wake YM hM , fun x GC' y GM' h1 h2 => st_wake ht hr ho h1 h2⟩
theorem pr_lose {GC GM : gS} (hRR : RR GC GM) {YC YM : gY} (hC : YC.2.2.2 = wC) (hM : YM.2.2.2 = wM) (a1 a2 : Int32) : ∃ PC PM : Int32 → gS → Prop, (∀ l, gM YC l yX8_lose cX8_lose 3 (some .int) (1, 22) [.ref (YC.2.1 0), .int a1, .int a2] GC (qi PC)) ∧ (∀ l, gM YM l yX9_lose cX9_lose 3 (some .int) (1, 21) [.ref (YM.2.1 100), .int a1, .int a2] GM (qi PM)) ∧ prP PC PM := by
  have hRR0 := hRR
  obtain ⟨mc, fc, wd, nf, jk, nk, lv, st, n, jr, ht, hr, ho⟩ := hRR0
  exact ⟨_, _, tX8_lose YC hC ht.1.1 ht.1.2.2, tX9_lose YM hM ht.1.2.1 ht.1.2.2 ht.2.2.2.2.2.1.2.1 ht.2.2.2.2.2.1.2.2, fun x GC' y GM' h1 h2 => st_lose ht hr ho h1 h2⟩
theorem pr_spoil {GC GM : gS} (hRR : RR GC GM) {YC YM : gY} (hC : YC.2.2.2 = wC) (hM : YM.2.2.2 = wM) (a1 a2 a3 : Int32) : ∃ PC PM : Int32 → gS → Prop, (∀ l, gM YC l yX8_spoil cX8_spoil 4 (some .int) (2, 43) [.ref (YC.2.1 0), .int a1, .int a2, .int a3] GC (qi PC)) ∧ (∀ l, gM YM l yX9_spoil cX9_spoil 4 (some .int) (1, 21) [.ref (YM.2.1 100), .int a1, .int a2, .int a3] GM (qi PM)) ∧ prP PC PM := by
  have hRR0 := hRR
  obtain ⟨mc, fc, wd, nf, jk, nk, lv, st, n, jr, ht, hr, ho⟩ := hRR0
  exact ⟨_, _, tX8_spoil YC hC ht.2.1.1 ht.2.1.2.2 (fun f hf => ⟨(ht.2.2.1 f hf).1, (ht.2.2.1 f hf).2.1, (ht.2.2.1 f hf).2.2.1⟩), tX9_spoil YM hM ht.2.1.2.1 ht.2.1.2.2 (fun f hf => by rw [(ht.2.2.1 f hf).2.2.2.1]; exact ⟨(ht.2.2.1 f hf).1, (ht.2.2.1 f hf).2.2.1⟩) ht.2.2.2.2.2.1.2.1 ht.2.2.2.2.2.1.2.2, fun x GC' y GM' h1 h2 => st_spoil ht hr ho h1 h2⟩
theorem pr_down {GC GM : gS} (hRR : RR GC GM) {YC YM : gY} (hC : YC.2.2.2 = wC) (hM : YM.2.2.2 = wM) (a1 a2 a3 : Int32) : ∃ PC PM : Int32 → gS → Prop, (∀ l, gM YC l yX8_down cX8_down 4 (some .int) (1, 24) [.ref (YC.2.1 0), .int a1, .int a2, .int a3] GC (qi PC)) ∧ (∀ l, gM YM l yX9_down cX9_down 5 (some .int) (1, 20) [.ref (YM.2.1 100), .int a1, .int a2, .int a3] GM (qi PM)) ∧ prP PC PM := by
  have hRR0 := hRR
  obtain ⟨mc, fc, wd, nf, jk, nk, lv, st, n, jr, ht, hr, ho⟩ := hRR0
  exact ⟨_, _, tX8_down YC hC , tX9_down YM hM ht.2.2.2.2.2.1.2.1 ht.2.2.2.2.2.1.2.2, fun x GC' y GM' h1 h2 => st_down ht hr ho h1 h2⟩
theorem pr_cut {GC GM : gS} (hRR : RR GC GM) {YC YM : gY} (hC : YC.2.2.2 = wC) (hM : YM.2.2.2 = wM) (a1 a2 : Int32) : ∃ PC PM : Int32 → gS → Prop, (∀ l, gM YC l yX8_cut cX8_cut 3 (some .int) (2, 43) [.ref (YC.2.1 0), .int a1, .int a2] GC (qi PC)) ∧ (∀ l, gM YM l yX9_cut_ cX9_cut_ 3 (some .int) (1, 21) [.ref (YM.2.1 100), .int a1, .int a2] GM (qi PM)) ∧ prP PC PM := by
  have hRR0 := hRR
  obtain ⟨mc, fc, wd, nf, jk, nk, lv, st, n, jr, ht, hr, ho⟩ := hRR0
  exact ⟨_, _, tX8_cut YC hC ht.1.1 ht.1.2.2, tX9_cut_ YM hM ht.1.2.1 ht.1.2.2 ht.2.2.2.2.2.1.2.1 ht.2.2.2.2.2.1.2.2, fun x GC' y GM' h1 h2 => st_cut ht hr ho h1 h2⟩
theorem pr_answer {GC GM : gS} (hRR : RR GC GM) {YC YM : gY} (hC : YC.2.2.2 = wC) (hM : YM.2.2.2 = wM) (a1 a2 a3 : Int32) : ∃ PC PM : Int32 → gS → Prop, (∀ l, gM YC l yX8_answer cX8_answer 4 (some .int) (7, 163) [.ref (YC.2.1 0), .int a1, .int a2, .int a3] GC (qi PC)) ∧ (∀ l, gM YM l yX9_answer cX9_answer 5 (some .int) (5, 124) [.ref (YM.2.1 100), .int a1, .int a2, .int a3] GM (qi PM)) ∧ prP PC PM := by
  have hRR0 := hRR
  obtain ⟨mc, fc, wd, nf, jk, nk, lv, st, n, jr, ht, hr, ho⟩ := hRR0
  have hro := ran.ok ht hr
  obtain ⟨s0, hk, hg, hgo⟩ := ran.go ht hr
  have ha : asked GC GM mc fc wd nf jk nk lv st s0 := ⟨hk, hgo⟩
  exact ⟨_, _, tX8_answer YC hC hro, tX9_answer YM hM hg, fun x GC' y GM' h1 h2 => st_answer ht ha ho hr h1 h2⟩
theorem pr_state {GC GM : gS} (hRR : RR GC GM) {YC YM : gY} (hC : YC.2.2.2 = wC) (hM : YM.2.2.2 = wM) (a1 a2 a3 : Int32) : ∃ PC PM : Int32 → gS → Prop, (∀ l, gM YC l yX8_state cX8_state 4 (some .int) (7, 163) [.ref (YC.2.1 0), .int a1, .int a2, .int a3] GC (qi PC)) ∧ (∀ l, gM YM l yX9_state cX9_state 5 (some .int) (5, 124) [.ref (YM.2.1 100), .int a1, .int a2, .int a3] GM (qi PM)) ∧ prP PC PM := by
  have hRR0 := hRR
  obtain ⟨mc, fc, wd, nf, jk, nk, lv, st, n, jr, ht, hr, ho⟩ := hRR0
  have hro := ran.ok ht hr
  obtain ⟨s0, hk, hg, hgo⟩ := ran.go ht hr
  have ha : asked GC GM mc fc wd nf jk nk lv st s0 := ⟨hk, hgo⟩
  exact ⟨_, _, tX8_state YC hC hro, tX9_state YM hM hg, fun x GC' y GM' h1 h2 => st_state ht ha ho hr h1 h2⟩
theorem pr_sends {GC GM : gS} (hRR : RR GC GM) {YC YM : gY} (hC : YC.2.2.2 = wC) (hM : YM.2.2.2 = wM) (a1 : Int32) : ∃ PC PM : Int32 → gS → Prop, (∀ l, gM YC l yX8_sends cX8_sends 2 (some .int) (7, 163) [.ref (YC.2.1 0), .int a1] GC (qi PC)) ∧ (∀ l, gM YM l yX9_sends cX9_sends 2 (some .int) (5, 124) [.ref (YM.2.1 100), .int a1] GM (qi PM)) ∧ prP PC PM := by
  have hRR0 := hRR
  obtain ⟨mc, fc, wd, nf, jk, nk, lv, st, n, jr, ht, hr, ho⟩ := hRR0
  have hro := ran.ok ht hr
  obtain ⟨s0, hk, hg, hgo⟩ := ran.go ht hr
  have ha : asked GC GM mc fc wd nf jk nk lv st s0 := ⟨hk, hgo⟩
  exact ⟨_, _, tX8_sends YC hC hro, tX9_sends YM hM hg, fun x GC' y GM' h1 h2 => st_sends ht ha ho hr h1 h2⟩
theorem pr_sent {GC GM : gS} (hRR : RR GC GM) {YC YM : gY} (hC : YC.2.2.2 = wC) (hM : YM.2.2.2 = wM) (a1 a2 : Int32) : ∃ PC PM : Int32 → gS → Prop, (∀ l, gM YC l yX8_sent cX8_sent 3 (some .int) (7, 163) [.ref (YC.2.1 0), .int a1, .int a2] GC (qi PC)) ∧ (∀ l, gM YM l yX9_sent cX9_sent 3 (some .int) (5, 124) [.ref (YM.2.1 100), .int a1, .int a2] GM (qi PM)) ∧ prP PC PM := by
  have hRR0 := hRR
  obtain ⟨mc, fc, wd, nf, jk, nk, lv, st, n, jr, ht, hr, ho⟩ := hRR0
  have hro := ran.ok ht hr
  obtain ⟨s0, hk, hg, hgo⟩ := ran.go ht hr
  have ha : asked GC GM mc fc wd nf jk nk lv st s0 := ⟨hk, hgo⟩
  exact ⟨_, _, tX8_sent YC hC hro, tX9_sent YM hM hg, fun x GC' y GM' h1 h2 => st_sent ht ha ho hr h1 h2⟩
theorem pr_ends {GC GM : gS} (hRR : RR GC GM) {YC YM : gY} (hC : YC.2.2.2 = wC) (hM : YM.2.2.2 = wM) : ∃ PC PM : Int32 → gS → Prop, (∀ l, gM YC l yX8_ends cX8_ends 1 (some .int) (7, 163) [.ref (YC.2.1 0)] GC (qi PC)) ∧ (∀ l, gM YM l yX9_ends cX9_ends 2 (some .int) (5, 124) [.ref (YM.2.1 100)] GM (qi PM)) ∧ prP PC PM := by
  have hRR0 := hRR
  obtain ⟨mc, fc, wd, nf, jk, nk, lv, st, n, jr, ht, hr, ho⟩ := hRR0
  have hro := ran.ok ht hr
  obtain ⟨s0, hk, hg, hgo⟩ := ran.go ht hr
  have ha : asked GC GM mc fc wd nf jk nk lv st s0 := ⟨hk, hgo⟩
  exact ⟨_, _, tX8_ends YC hC hro, tX9_ends YM hM hg, fun x GC' y GM' h1 h2 => st_ends ht ha ho h1 h2⟩
theorem pr_up {GC GM : gS} (hRR : RR GC GM) {YC YM : gY} (hC : YC.2.2.2 = wC) (hM : YM.2.2.2 = wM) : ∃ PC PM : Int32 → gS → Prop, (∀ l, gM YC l yX8_up cX8_up 1 (some .int) (7, 163) [.ref (YC.2.1 0)] GC (qi PC)) ∧ (∀ l, gM YM l yX9_up cX9_up 3 (some .int) (5, 124) [.ref (YM.2.1 100)] GM (qi PM)) ∧ prP PC PM := by
  have hRR0 := hRR
  obtain ⟨mc, fc, wd, nf, jk, nk, lv, st, n, jr, ht, hr, ho⟩ := hRR0
  have hro := ran.ok ht hr
  obtain ⟨s0, hk, hg, hgo⟩ := ran.go ht hr
  have ha : asked GC GM mc fc wd nf jk nk lv st s0 := ⟨hk, hgo⟩
  exact ⟨_, _, tX8_up YC hC hro, tX9_up YM hM hg, fun x GC' y GM' h1 h2 => st_up ha ho h1 h2⟩
theorem pr_log {GC GM : gS} (hRR : RR GC GM) {YC YM : gY} (hC : YC.2.2.2 = wC) (hM : YM.2.2.2 = wM) (a1 a2 : Int32) : ∃ PC PM : Int32 → gS → Prop, (∀ l, gM YC l yX8_log cX8_log 3 (some .int) (7, 163) [.ref (YC.2.1 0), .int a1, .int a2] GC (qi PC)) ∧ (∀ l, gM YM l yX9_log cX9_log 7 (some .int) (5, 124) [.ref (YM.2.1 100), .int a1, .int a2] GM (qi PM)) ∧ prP PC PM := by
  have hRR0 := hRR
  obtain ⟨mc, fc, wd, nf, jk, nk, lv, st, n, jr, ht, hr, ho⟩ := hRR0
  have hro := ran.ok ht hr
  obtain ⟨s0, hk, hg, hgo⟩ := ran.go ht hr
  have ha : asked GC GM mc fc wd nf jk nk lv st s0 := ⟨hk, hgo⟩
  exact ⟨_, _, tX8_log YC hC hro, tX9_log YM hM hg, fun x GC' y GM' h1 h2 => st_log ht ha ho hr h1 h2⟩
theorem pr_plan {GC GM : gS} (hRR : RR GC GM) {YC YM : gY} (hC : YC.2.2.2 = wC) (hM : YM.2.2.2 = wM) (a1 : Int32) : ∃ PC PM : Int32 → gS → Prop, (∀ l, gM YC l yX8_plan cX8_plan 8 (some .int) (6, 143) [.ref (YC.2.1 0), .int a1] GC (qi PC)) ∧ (∀ l, gM YM l yX9_plan cX9_plan 11 (some .int) (6, 146) [.ref (YM.2.1 100), .int a1] GM (qi PM)) ∧ prP PC PM := by
  have hRR0 := hRR
  obtain ⟨mc, fc, wd, nf, jk, nk, lv, st, n, jr, ht, hr, ho⟩ := hRR0
  have hro := ran.ok ht hr
  exact ⟨_, _, tX8_plan YC hC hro ht.2.2.2.2.2.2.2.2.2.1, tX9_plan YM hM ht.rel.1 ht.rel.2.1 ht.rel.2.2 (c := cr (stR GC)) ht.2.2.2.2.2.2.2.2.2.2.1 ht.2.2.2.2.2.2.2.2.2.2.2.1, fun x GC' y GM' h1 h2 => st_plan ht hr ho h1 h2⟩
theorem pr_wakes {GC GM : gS} (hRR : RR GC GM) {YC YM : gY} (hC : YC.2.2.2 = wC) (hM : YM.2.2.2 = wM) (a1 : Int32) : ∃ PC PM : Int32 → gS → Prop, (∀ l, gM YC l yX8_wakes cX8_wakes 2 (some .int) (1, 21) [.ref (YC.2.1 0), .int a1] GC (qi PC)) ∧ (∀ l, gM YM l yX9_wakes cX9_wakes 2 (some .int) (0, 0) [.ref (YM.2.1 100), .int a1] GM (qi PM)) ∧ prP PC PM := by
  have hRR0 := hRR
  obtain ⟨mc, fc, wd, nf, jk, nk, lv, st, n, jr, ht, hr, ho⟩ := hRR0
  exact ⟨_, _, tX8_wakes YC hC , tX9_wakes YM hM , fun x GC' y GM' h1 h2 => st_wakes ht hRR h1 h2⟩
theorem pr_count {GC GM : gS} (hRR : RR GC GM) {YC YM : gY} (hC : YC.2.2.2 = wC) (hM : YM.2.2.2 = wM) (a1 : Int32) : ∃ PC PM : Int32 → gS → Prop, (∀ l, gM YC l yX8_count cX8_count 2 (some .int) (7, 163) [.ref (YC.2.1 0), .int a1] GC (qi PC)) ∧ (∀ l, gM YM l yX9_count cX9_count 2 (some .int) (5, 124) [.ref (YM.2.1 100), .int a1] GM (qi PM)) ∧ prP PC PM := by
  have hRR0 := hRR
  obtain ⟨mc, fc, wd, nf, jk, nk, lv, st, n, jr, ht, hr, ho⟩ := hRR0
  have hro := ran.ok ht hr
  obtain ⟨s0, hk, hg, hgo⟩ := ran.go ht hr
  have ha : asked GC GM mc fc wd nf jk nk lv st s0 := ⟨hk, hgo⟩
  exact ⟨_, _, tX8_count YC hC hro, tX9_count YM hM hg (ht.2.2.2.2.2.2.2.2.2.2.2.2.2 0 (by decide)).1 (ht.2.2.2.2.2.2.2.2.2.2.2.2.2 0 (by decide)).2.1 (ht.2.2.2.2.2.2.2.2.2.2.2.2.2 1 (by decide)).1 (ht.2.2.2.2.2.2.2.2.2.2.2.2.2 1 (by decide)).2.1, fun x GC' y GM' h1 h2 => st_count ht ha ho hr h1 h2⟩
