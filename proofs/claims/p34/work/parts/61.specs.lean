/-! WHAT THE REFERENCE ANSWERS, call by call: what is refused changes nothing that is seen, and reads change nothing -/
def rfd {β : Type} (M : zMs) (w : Int32) (r : Option (β × zMs)) : Prop := ∃ b M', r = some (b, M') ∧ eqM M M' ∧ M' 0 0 = w
def rdd {β : Type} (M : zMs) (v : β) (r : Option (β × zMs)) : Prop := ∃ M', r = some (v, M') ∧ eqM M M' ∧ M' 0 0 = 0
theorem eqM_s {M M1 : zMs} (h : eqM M M1) : eqM M1 M := fun k hk => (h k hk).symm
section SP
variable {S : zSt} {M : zMs} {t b g v k : Nat}
theorem rfd_n {β : Type} {w : Int32} {r : Option (β × zMs)} {b : β} (h : r = some (b, pM M 0 0 w)) : rfd M w r := ⟨b, _, h, eqM_ref w, pM_s 0 0 w⟩
theorem rdd_n {β : Type} {r : Option (β × zMs)} {b : β} (h : r = some (b, pM M 0 0 0)) : rdd M b r := ⟨_, h, eqM_ref 0, pM_s 0 0 0⟩
theorem sp_tables (M : zMs) : rdd M (M 1 0) (fX10_tables M) := rdd_n rfl
theorem sp_games (M : zMs) : rdd M (M 24 0) (fX10_games M) := rdd_n rfl
theorem sp_box (h : WM M) (ht : t < nT M) : rdd M (M 4 t) (fX10_box M (nI t)) := by
  have := nT6 h
  refine rdd_n ?_
  unfold fX10_box; rw [noTable_in h ht, cl2_s, if_pos rfl, gd_t (nI_in (by omega) (by omega)), nI_clamp (by omega)]; rfl
theorem so_box (h : WM M) {i : Int32} (hi : i < 0 ∨ nI (nT M) ≤ i) : rfd M 1 (fX10_box M i) := by
  refine rfd_n (b := 0) ?_
  unfold fX10_box; rw [noTable_out h hi, cl2_s, if_neg (by decide)]
theorem sp_missing (h : WM M) (ht : t < nT M) : rdd M (M 6 t) (fX10_missing M (nI t)) := by
  have := nT6 h
  refine rdd_n ?_
  unfold fX10_missing; rw [noTable_in h ht, cl2_s, if_pos rfl, gd_t (nI_in (by omega) (by omega)), nI_clamp (by omega)]; rfl
theorem so_missing (h : WM M) {i : Int32} (hi : i < 0 ∨ nI (nT M) ≤ i) : rfd M 1 (fX10_missing M i) := by
  refine rfd_n (b := 0) ?_
  unfold fX10_missing; rw [noTable_out h hi, cl2_s, if_neg (by decide)]
theorem sp_gameAt (h : WM M) (ht : t < nT M) : rdd M (M 7 t) (fX10_gameAt M (nI t)) := by
  have := nT6 h
  refine rdd_n ?_
  unfold fX10_gameAt; rw [noTable_in h ht, cl2_s, if_pos rfl, gd_t (nI_in (by omega) (by omega)), nI_clamp (by omega)]; rfl
theorem so_gameAt (h : WM M) {i : Int32} (hi : i < 0 ∨ nI (nT M) ≤ i) : rfd M 1 (fX10_gameAt M i) := by
  refine rfd_n (b := 0) ?_
  unfold fX10_gameAt; rw [noTable_out h hi, cl2_s, if_neg (by decide)]
theorem sp_score (h : WM M) (hg : g < nG M) : rdd M (M 27 g) (fX10_score M (nI g)) := by
  have := nG40 h
  refine rdd_n ?_
  unfold fX10_score; rw [noGame_in h hg, cl2_s, if_pos rfl, gd_t (nI_in (by omega) (by omega)), nI_clamp (by omega)]; rfl
theorem so_score (h : WM M) {i : Int32} (hi : i < 0 ∨ nI (nG M) ≤ i) : rfd M 1 (fX10_score M i) := by
  refine rfd_n (b := 0) ?_
  unfold fX10_score; rw [noGame_out h hi, cl2_s, if_neg (by decide)]
theorem sp_ballsLeft (h : WM M) (hg : g < nG M) : rdd M (M 26 g) (fX10_ballsLeft M (nI g)) := by
  have := nG40 h
  refine rdd_n ?_
  unfold fX10_ballsLeft; rw [noGame_in h hg, cl2_s, if_pos rfl, gd_t (nI_in (by omega) (by omega)), nI_clamp (by omega)]; rfl
theorem so_ballsLeft (h : WM M) {i : Int32} (hi : i < 0 ∨ nI (nG M) ≤ i) : rfd M 1 (fX10_ballsLeft M i) := by
  refine rfd_n (b := 0) ?_
  unfold fX10_ballsLeft; rw [noGame_out h hi, cl2_s, if_neg (by decide)]
theorem sp_stack (h : WM M) (hg : g < nG M) : rdd M (tld M g (nD M g)) (fX10_stack M (nI g)) := rdd_n (stack10_eq h hg)
theorem so_stack (h : WM M) {i : Int32} (hi : i < 0 ∨ nI (nG M) ≤ i) : rfd M 1 (fX10_stack M i) := by
  refine rfd_n (b := 0) ?_
  unfold fX10_stack; rw [noGame_out h hi, cl2_s, if_neg i10]
theorem sp_vanAt (hv : v < 2) : rdd M (M 49 v) (fX10_vanAt M (nI v)) := by
  refine rdd_n ?_
  unfold fX10_vanAt
  simp only [isVan_in hv, cl_s, st_s, i10, if_false, refused_0, cl2_s, if_true, nI_clamp (show v < 2 ^ 31 by omega)]
  rw [gd_t (show ¬ (nI v < 0 ∨ 2 ≤ v) from fun q => q.elim (nI_pos (by omega)) (by omega))]
  rfl
theorem so_vanAt {i : Int32} (hi : i < 0 ∨ 1 < i) : rfd M 1 (fX10_vanAt M i) := by
  refine rfd_n (b := 0) ?_
  unfold fX10_vanAt; simp only [isVan_n hi, cl_s, st_s, if_true, refused_n M i10, cl2_s, i10, if_false]
theorem sp_parts (hv : v < 2) (hk : k < 2) : rdd M (M 50 (2 * v + k)) (fX10_parts M (nI v) (nI k)) := by
  refine rdd_n ?_
  unfold fX10_parts
  simp only [isVan_in hv, cl_s, st_s, in_in (kind_in hk), i10, if_false, refused_0, cl2_s, if_true, ix2, cl4 hv hk, gd_t (in4 hv hk)]
  rfl
theorem so_parts2 (hv : v < 2) {j : Int32} (hj : ¬ inR j 0 1) : rfd M 2 (fX10_parts M (nI v) j) := by
  refine rfd_n (b := 0) ?_
  unfold fX10_parts
  simp only [isVan_in hv, cl_s, st_s, in_out hj, i10, if_false, refused_n M i20, cl2_s, if_true]
theorem so_parts1 {i j : Int32} (hi : fX10_isVan M i = some 0) : rfd M 1 (fX10_parts M i j) := by
  refine rfd_n (b := 0) ?_
  unfold fX10_parts
  simp only [hi, cl_s, st_s, i10, if_false, refused_n M i10, cl2_s, if_true]
theorem sp_wanted (h : WM M) (hk : k < 2) : rdd M (if (0 : Int32) < bdT M (nI k) (nT M) - M 50 k - M 50 (2 + k) then bdT M (nI k) (nT M) - M 50 k - M 50 (2 + k) else 0) (fX10_wanted M (nI k)) := rdd_n (wanted10_eq h hk)
theorem so_wanted {i : Int32} (hr : ¬ inR i 0 1) : rfd M 1 (fX10_wanted M i) := by
  refine rfd_n (b := 0) ?_
  unfold fX10_wanted
  rw [in_out hr, cl_s, st_s, if_pos rfl]
  dsimp only
  rw [refused_n M i10, cl2_s, if_neg i10]
theorem sp_wear (h : WM M) (ht : t < nT M) (hb : b < nB M t) : rdd M (M 15 (8 * t + b)) (fX10_wear M (nI t) (nI b)) := by
  obtain ⟨h6, h8⟩ := bump h ht hb
  refine rdd_n ?_
  unfold fX10_wear
  simp only [noSwitch_in h ht hb, cl2_s, if_true, ix8, cl48 h6 h8]
  rw [gd_t (by have := in48 h6 h8; rw [cl48 h6 h8] at this; exact of_eq_true this)]
  rfl
theorem so_wear {i j : Int32} (e1 : fX10_isSwitch M i j = some 0) : rfd M 1 (fX10_wear M i j) := by
  refine rfd_n (b := 0) ?_
  unfold fX10_wear; rw [noSwitch_0 e1, cl2_s, if_neg (by decide)]
theorem sp_sticks (h : WM M) (ht : t < nT M) (hb : b < nB M t) : rdd M (if M 16 (8 * t + b) = -1 then 0 else 1) (fX10_sticks M (nI t) (nI b)) := by
  obtain ⟨h6, h8⟩ := bump h ht hb
  have hz : pM M 0 0 0 16 (8 * t + b) = M 16 (8 * t + b) := rfl
  have g : ¬ (nI (8 * t + b) < 0 ∨ 48 ≤ 8 * t + b) := by have := in48 h6 h8; rw [cl48 h6 h8] at this; exact of_eq_true this
  refine rdd_n ?_
  unfold fX10_sticks
  simp only [noSwitch_in h ht hb, cl2_s, st_s, if_true, ix8, cl48 h6 h8, hz]
  rw [gd_t g]
  by_cases e : M 16 (8 * t + b) = -1
  · rw [if_pos e, if_pos e]
  · rw [if_neg e, if_neg e]
theorem so_sticks {i j : Int32} (e1 : fX10_isSwitch M i j = some 0) : rfd M 1 (fX10_sticks M i j) := by
  refine rfd_n (b := 0) ?_
  unfold fX10_sticks; simp only [noSwitch_0 e1, cl2_s, st_s, i10, if_false]
theorem sp_logged (h : WM M) (hg : g < nG M) : rdd M (nI (ents M g).length) (fX10_logged M (nI g)) := by
  obtain ⟨M1, e1, h1, F1⟩ := entries_eq h hg (eqM_ref (M := M) 0)
  refine ⟨M1, ?_, h1, by rw [M00_wk F1]; rfl⟩
  unfold fX10_logged
  rw [noGame_in h hg, cl2_s, if_pos rfl, e1, cl2_s]
theorem so_logged (h : WM M) {i : Int32} (hi : i < 0 ∨ nI (nG M) ≤ i) : rfd M 1 (fX10_logged M i) := by
  refine rfd_n (b := 0) ?_
  unfold fX10_logged; rw [noGame_out h hi, cl2_s, if_neg i10]
theorem so_entryG (h : WM M) {i j : Int32} (hi : i < 0 ∨ nI (nG M) ≤ i) : rfd M 1 (fX10_entryAt M i j) := by
  have out0 : ∀ M2 : zMs, fX10_refused M2 1 = some (1, pM M2 0 0 1) := fun M2 => refused_n M2 i10
  refine rfd_n (b := 0) ?_
  rw [entryX_eq]
  unfold entryX
  simp only [isGame_out h hi, cl_s, st_s, if_true, out0, cl2_s, i10, if_false]
theorem so_entryN (h : WM M) (hg : g < nG M) {j : Int32} (hj : j < 0) : rfd M 1 (fX10_entryAt M (nI g) j) := by
  have out0 : ∀ M2 : zMs, fX10_refused M2 1 = some (1, pM M2 0 0 1) := fun M2 => refused_n M2 i10
  refine rfd_n (b := 0) ?_
  rw [entryX_eq]
  unfold entryX
  simp only [isGame_in h hg, hj, cl_s, st_s, if_true, out0, cl2_s, i10, if_false]
theorem sp_entryAt (h : WM M) (hg : g < nG M) {k e : Nat} (he : (ents M g)[k]? = some e) : rdd M (nI e).toInt64 (fX10_entryAt M (nI g) (nI k)) := by
  have out0 : ∀ M2 : zMs, fX10_refused M2 1 = some (1, pM M2 0 0 1) := fun M2 => refused_n M2 i10
  have hl := ents_2520 h hg
  have hkl : k < (ents M g).length := (List.getElem?_eq_some_iff.mp he).1
  have hk : k < 2 ^ 31 := by omega
  have hj0 : ¬ nI k < 0 := nI_pos hk
  obtain ⟨M1, e1, h1, F1⟩ := entries_eq h hg (eqM_r M)
  obtain ⟨M4, e4, h4, F4⟩ := eaX_eq h hg (eqM_t h1 (eqM_ref 0)) he
  refine ⟨M4, ?_, h4, by rw [F4]; rfl⟩
  rw [entryX_eq]
  unfold entryX
  simp only [isGame_in h hg, hj0, cl_s, st_s, if_true, cl2_s, i10, if_false, e1, nI_leI (show (ents M g).length < 2 ^ 31 by omega) hk, show ¬ (ents M g).length ≤ k by omega, refused_0, e4]
theorem so_entryL (h : WM M) (hg : g < nG M) {k : Nat} (hk : k < 2 ^ 31) (hkl : (ents M g).length ≤ k) : rfd M 1 (fX10_entryAt M (nI g) (nI k)) := by
  have out0 : ∀ M2 : zMs, fX10_refused M2 1 = some (1, pM M2 0 0 1) := fun M2 => refused_n M2 i10
  have hl := ents_2520 h hg
  have hj0 : ¬ nI k < 0 := nI_pos hk
  obtain ⟨M1, e1, h1, F1⟩ := entries_eq h hg (eqM_r M)
  refine ⟨0, pM M1 0 0 1, ?_, eqM_t h1 (eqM_ref 1), pM_s 0 0 1⟩
  rw [entryX_eq]
  unfold entryX
  simp only [isGame_in h hg, hj0, cl_s, st_s, if_true, out0, cl2_s, i10, if_false, e1, nI_leI (show (ents M g).length < 2 ^ 31 by omega) hk, show (ents M g).length ≤ k by omega]
theorem sp_twin (h : WM M) (hg : g < nG M) : rdd M (if M 26 g = 0 ∧ ents M g ≠ [] then fst (twB M g) 0 (nG M) else -1) (fX10_twin M (nI g)) := by
  have hg4 := nG40 h
  have hl := ents_2520 h hg
  have hg40 : ¬ 40 ≤ g := by omega
  have hd40 : ¬ 40 ≤ g := by omega
  have cg : (nI g).toNatClampNeg = g := nI_clamp (by omega)
  have hGp : nI (nG M) - 1 = nI (nG M - 1) := nI_pred1 (by omega)
  have e24 : pM M 0 0 0 24 0 = nI (nG M) := nG_e h
  have e26 : pM M 0 0 0 26 g = M 26 g := rfl
  by_cases h0 : M 26 g = 0
  · by_cases hn : ents M g = []
    · rw [if_neg (fun q => q.2 hn)]
      obtain ⟨M1, e1, h1, F1⟩ := entries_eq h hg (eqM_ref (M := M) 0)
      rw [hn] at e1
      have e1 : fX10_entries (pM M 0 0 0) (nI g) = some (nI 0, M1) := e1
      refine ⟨M1, ?_, h1, by rw [M00_wk F1]; rfl⟩
      unfold fX10_twin
      rw [noGame_in h hg, cl2_s, if_pos rfl, st_s, e24, st_s]
      refine lp_e (bX10_twin (nI g)) 39999 ?_
      unfold bX10_twin
      simp only [hGp, nI_pos (show nG M - 1 < 2 ^ 31 by omega), if_false, cg, nI_pos (show g < 2 ^ 31 by omega), hg40, hd40, false_or, not_false_eq_true, gd_T, e26, h0, if_true, e1, cl2_q, nI_0, Int32.le_refl]
    · rw [if_pos ⟨h0, hn⟩]
      obtain ⟨M1, e1, h1, q1⟩ := twin10 h (eqM_ref (M := M) 0) hg rfl h0 hn (nG M) 40000 (pM M 0 0 0) (nG M) (eqM_ref 0) rfl (Nat.le_refl _) (by omega) rfl
      refine ⟨M1, ?_, h1, q1⟩
      unfold fX10_twin
      rw [noGame_in h hg, cl2_s, if_pos rfl, st_s, e24, st_s]
      rw [Nat.sub_self] at e1
      exact e1
  · rw [if_neg (fun q => h0 q.1)]
    refine rdd_n ?_
    unfold fX10_twin
    rw [noGame_in h hg, cl2_s, if_pos rfl, st_s, e24, st_s]
    refine lp_e (bX10_twin (nI g)) 39999 ?_
    unfold bX10_twin
    simp only [hGp, nI_pos (show nG M - 1 < 2 ^ 31 by omega), if_false, cg, nI_pos (show g < 2 ^ 31 by omega), hg40, hd40, false_or, not_false_eq_true, gd_T, e26, h0]
theorem so_twin (h : WM M) {i : Int32} (hi : i < 0 ∨ nI (nG M) ≤ i) : rfd M 1 (fX10_twin M i) := by
  refine rfd_n (b := 0) ?_
  unfold fX10_twin; rw [noGame_out h hi, cl2_s, if_neg i10]
theorem plS_ref (x : Int32) (M : zMs) (g : Nat) (l : List Nat) (s : plT) : plS (pM M 0 0 x) g l s = plS M g l s := by
  have e : (fun (s : plT) (e : Nat) => cls (pM M 0 0 x) g (e % 16) s) = fun s e => cls M g (e % 16) s := by
    funext s e
    exact cls_g (by rw [pMn (by omega)]) (fun r a b j _ => by rw [pMn (by omega)]) s
  unfold plS
  rw [e]
theorem kept_ref (w x : Int32) (M : zMs) (l : List Nat) : kept w (pM M 0 0 x) l = kept w M l := by
  unfold kept
  rw [pMn (by omega)]
theorem ents_ref (x : Int32) (M : zMs) (g : Nat) : ents (pM M 0 0 x) g = ents M g := ents_eq (pMn (by omega) _ _) (pMn (by omega) _ _) (pMn (by omega) _ _) (pMn (by omega) _ _) g
theorem sp_replay (w : Int32) (h : Tie S M) (hg : g < nG M) : ∃ s M1, (cl2 (fX10_noGame M (nI g)) fun r1 M3 => if r1 = 0 then cl2 (fX10_replayed M3 (nI g) w) fun r5 M7 => some ((r5, M7)) else some (((0 : Int32), M3))) = some (nI s, M1) ∧ fX10_replayed (pM M 0 0 0) (nI g) w = some (nI s, M1) ∧ s ≤ 14000 * 2520 ∧ eqM M M1 ∧ M1 0 0 = 0 ∧ nI s = (plS M g (kept w M (ents M g)) pl0).1 := by
  obtain ⟨S1, M1, s1, e1, e2, F, G, hs, hs2⟩ := replay_eq (tie_ref h 0) hg w
  rw [plS_ref, kept_ref, ents_ref] at hs2
  refine ⟨s1, M1, ?_, e2, hs, eqM_t (eqM_ref 0) (rpF_e G), by rw [G 0 (by omega)]; rfl, hs2⟩
  rw [noGame_in h.1 hg, cl2_s, if_pos rfl, e2, cl2_s]
theorem so_replay (w : Int32) (h : WM M) {i : Int32} (hi : i < 0 ∨ nI (nG M) ≤ i) : rfd M 1 (cl2 (fX10_noGame M i) fun r1 M3 => if r1 = 0 then cl2 (fX10_replayed M3 i w) fun r5 M7 => some ((r5, M7)) else some (((0 : Int32), M3))) := by
  refine rfd_n (b := 0) ?_
  rw [noGame_out h hi, cl2_s, if_neg i10]
theorem so_scoreByLog (h : WM M) {i : Int32} (hi : i < 0 ∨ nI (nG M) ≤ i) : rfd M 1 (fX10_scoreByLog M i) := so_replay 0 h hi
theorem so_valid (h : WM M) {i : Int32} (hi : i < 0 ∨ nI (nG M) ≤ i) : rfd M 1 (fX10_valid M i) := so_replay 1 h hi
theorem so_high1 (h : WM M) {i p : Int32} (hi : i < 0 ∨ nI (nT M) ≤ i) : rfd M 1 (fX10_high M i p) := by
  refine rfd_n (b := 0) ?_
  unfold fX10_high
  simp only [isTable_out h hi, cl_q, st_q, if_true, refused_n M i10, cl2_q, i10, if_false]
theorem so_high2 (h : WM M) (ht : t < nT M) {p : Int32} (hp : p < 0) : rfd M 2 (fX10_high M (nI t) p) := by
  have hp2 : ¬ 0 ≤ p := Int32.not_le.mpr hp
  refine rfd_n (b := 0) ?_
  unfold fX10_high
  simp only [isTable_in h ht, cl_q, st_q, if_true, hp2, refused_n M i20, cl2_q, i10, if_false]
theorem sp_high (h : Tie S M) (ht : t < nT M) {p : Int32} (hp : ¬ p < 0) : rdd M (lst (fV M t p) (nG M)) (fX10_high M (nI t) p) := by
  have h6 := nT6 h.1
  obtain ⟨S1, M1, v, e1, e2, F, G, q, ev⟩ := high_lp h t (by omega) p (nG M) 0 40000 S (pM M 0 0 0) (by omega) (by have := nG40 h.1; omega) (eqH_r S) (eqM_ref 0) rfl (fun i hi => by omega)
  rw [nI_0] at e1 e2
  rw [← ev]
  refine ⟨M1, ?_, G, q⟩
  unfold fX10_high
  rw [isTable_in h.1 ht, cl_s, st_s, if_neg i10, if_pos (Int32.not_lt.mp hp)]
  dsimp only
  rw [refused_0, cl2_s, if_pos rfl, st_s]
  exact e2
theorem sp_highE (h : Tie S M) (ht : t < nT M) {p : Int32} (hp : ¬ p < 0) : ∃ v, rdd M v (fX10_high M (nI t) p) := ⟨_, sp_high h ht hp⟩
theorem so_way {i : Int32} (e2 : fX10_isVan M i = some 0) : rfd M 1 (fX10_way M i) := by
  refine rfd_n (b := 0) ?_
  unfold fX10_way
  simp only [e2, cl_q, st_q, if_true, refused_n M i10, cl2_q, i10, if_false]
theorem sp_way (h : Tie S M) (hv : v < 2) : ∃ S1 M1, fX4_search S (zI S (9, v, 0) 1) = some S1 ∧ fX10_makePlan (pM M 0 0 0) (nI v) = some M1 ∧ PB S S1 (pM M 0 0 0) M1 (gaP (needB M) (nT M)).1 (nT M) ∧ rdd M (M1 54 0) (fX10_way M (nI v)) := by
  obtain ⟨S1, M1, e9, e10, hB⟩ := search_eq (tie_ref h 0) hv
  obtain ⟨-, -, -, ⟨len, hl, p4, p5⟩, p6, p7⟩ := id hB
  have eN : needB (pM M 0 0 0) = needB M := funext (needB_e (eqM_ref 0))
  have hB2 : PB S S1 (pM M 0 0 0) M1 (gaP (needB M) (nT M)).1 (nT M) := by rw [← eN]; exact hB
  refine ⟨S1, M1, e9, e10, hB2, M1, ?_, eqM_t (eqM_ref 0) (qF_e p7), by rw [p7 0 (by omega) (by omega) (by omega) (by omega)]; rfl⟩
  unfold fX10_way
  simp only [isVan_in hv, cl_q, st_q, i10, if_false, refused_0, cl2_q, if_true, e10]
theorem so_plannedV {i j : Int32} (e2 : fX10_isVan M i = some 0) : rfd M 1 (fX10_planned M i j) := by
  refine rfd_n (b := 0) ?_
  unfold fX10_planned
  by_cases hj : j < 0
  · simp only [e2, cl_q, st_q, if_true, refused_n M i10, cl2_q, i10, if_false, hj]
  · simp only [e2, cl_q, st_q, if_true, refused_n M i10, cl2_q, i10, if_false]
theorem so_plannedN (hv : v < 2) {j : Int32} (hj : j < 0) : rfd M 1 (fX10_planned M (nI v) j) := by
  refine rfd_n (b := 0) ?_
  unfold fX10_planned
  simp only [isVan_in hv, cl_q, st_q, i10, if_false, hj, if_true, refused_n M i10, cl2_q]
theorem sp_planned (hv : v < 2) {M1 : zMs} (e10 : fX10_makePlan M (nI v) = some M1) (p7 : qF M M1) {c : Nat} (hc : c ≤ 6) (p2 : M1 51 0 = nI c) (hk : k < c) : rdd M (M1 53 k) (fX10_planned M (nI v) (nI k)) := by
  have hj : ¬ nI k < 0 := nI_pos (by omega)
  have ge : ¬ nI c ≤ nI k := nI_ge hk (by omega)
  have ge7 : ¬ 6 ≤ k := by omega
  have r0 : fX10_refused M1 0 = some (0, pM M1 0 0 0) := rfl
  refine ⟨pM M1 0 0 0, ?_, eqM_t (qF_e p7) (eqM_ref 0), pM_s 0 0 0⟩
  unfold fX10_planned
  simp only [isVan_in hv, cl_q, st_q, i10, if_false, hj, e10, p2, ge, r0, cl2_q, if_true, nI_clamp (show k < 2 ^ 31 by omega), false_or, ge7, not_false_eq_true, gd_T]
  rfl
theorem so_plannedL (hv : v < 2) {M1 : zMs} (e10 : fX10_makePlan M (nI v) = some M1) (p7 : qF M M1) {c : Nat} (hc : c ≤ 6) (p2 : M1 51 0 = nI c) (hk : k < 2 ^ 31) (hkc : c ≤ k) : rfd M 1 (fX10_planned M (nI v) (nI k)) := by
  have hj : ¬ nI k < 0 := nI_pos hk
  have le : nI c ≤ nI k := nI_le (by omega) hk
  refine ⟨0, pM M1 0 0 1, ?_, eqM_t (qF_e p7) (eqM_ref 1), pM_s 0 0 1⟩
  unfold fX10_planned
  simp only [isVan_in hv, cl_q, st_q, i10, if_false, hj, e10, p2, le, if_true, refused_n M1 i10, cl2_q]
-- what writes
theorem so_addTable {i1 i2 : Int32} (hr : ¬ (inR i1 0 100 ∧ inR i2 1 9)) : rfd M 1 (fX10_addTable M i1 i2) := by
  refine rfd_n (b := 0) ?_
  unfold fX10_addTable
  by_cases r1 : inR i1 0 100
  · by_cases r2 : inR i2 1 9
    · exact absurd ⟨r1, r2⟩ hr
    · simp only [in_in r1, in_out r2, cl_q, st_q, i10, if_true, if_false, refused_n M i10, cl2_q]
  · simp only [in_out r1, cl_q, st_q, i10, if_true, if_false, refused_n M i10, cl2_q]
theorem so_addTable6 (h : WM M) {i1 i2 : Int32} (r1 : inR i1 0 100) (r2 : inR i2 1 9) (e6 : nT M = 6) : rfd M 2 (fX10_addTable M i1 i2) := by
  refine rfd_n (b := 0) ?_
  have e61 : M 1 0 = 6 := by rw [nT_e h, e6]; decide
  unfold fX10_addTable
  simp only [in_in r1, in_in r2, e61, cl_q, st_q, i10, if_true, if_false, refused_n M i20, cl2_q]
theorem sp_addTable (h : WM M) {i1 i2 : Int32} (r1 : inR i1 0 100) (r2 : inR i2 1 9) (h6 : nT M < 6) : fX10_addTable M i1 i2 = some (nI (nT M), pM (pM (pM (pM (pM M 0 0 0) 2 (nT M) i1) 3 (nT M) i2) 7 (nT M) (-1)) 1 0 (nI (nT M + 1))) := by
  have e0 : pM M 0 0 0 1 0 = nI (nT M) := nT_e h
  have ne6 : ¬ nI (nT M) = (6 : Int32) := by rw [c6I]; exact fun q => by have := (nI_eq (by omega) (by omega)).mp q; omega
  unfold fX10_addTable
  simp (disch := omega) only [in_in r1, in_in r2, nT_e h, ne6, refused_0, e0, st_q, cl_q, cl2_q, cxr_q, cxl_q, i10, if_true, if_false, Bool.false_eq_true, pM_s, pMn, nI_lz, nI_clamp, false_or, nleF, not_false_eq_true, gd_T, nI_1, nI_pred]
theorem so_addBumper1 (h : WM M) {i1 i2 i3 i4 i5 : Int32} (hi : i1 < 0 ∨ nI (nT M) ≤ i1) : rfd M 1 (fX10_addBumper M i1 i2 i3 i4 i5) := by
  refine rfd_n (b := 0) ?_
  by_cases ha : arBm i2 i3 i4 i5
  · rw [bm10_in ha]
    unfold tailBm
    simp only [isTable_out h hi, cl_q, st_q, if_true, refused_n M i10, cl2_q, i10, if_false]
  · rw [bm10_out ha]
    unfold tailBm
    simp only [isTable_out h hi, cl_q, st_q, if_true, refused_n M i10, cl2_q, i10, if_false]
theorem so_addBumper2 (h : WM M) (ht : t < nT M) {i2 i3 i4 i5 : Int32} (ha : ¬ arBm i2 i3 i4 i5) : rfd M 2 (fX10_addBumper M (nI t) i2 i3 i4 i5) := by
  refine rfd_n (b := 0) ?_
  rw [bm10_out ha]
  unfold tailBm
  simp only [isTable_in h ht, cl_q, st_q, i10, if_false, if_true, refused_n M i20, cl2_q]
theorem so_addBumper3 (h : WM M) (ht : t < nT M) {i2 i3 i4 i5 : Int32} (ha : arBm i2 i3 i4 i5) (hf : ¬ M 7 t = -1 ∨ nB M t = 8) : rfd M 3 (fX10_addBumper M (nI t) i2 i3 i4 i5) := by
  have h6 := nT6 h
  have hB := nB8 h (t := t) (by omega)
  have g6 : ¬ 6 ≤ t := by omega
  have ct : (nI t).toNatClampNeg = t := nI_clamp (by omega)
  refine rfd_n (b := 0) ?_
  rw [bm10_in ha]
  unfold tailBm
  by_cases hf1 : M 7 t = -1
  · have e8 := hf.resolve_left (fun q => q hf1)
    have n8 : (8 : Int32) ≤ nI (nB M t) := by rw [c8I]; exact nI_le (by omega) (by omega)
    simp only [isTable_in h ht, cl_q, st_q, i10, if_false, isFree_eq M (show t < 6 by omega), hf1, if_true, ct, nI_pos (show t < 2 ^ 31 by omega), false_or, g6, not_false_eq_true, gd_T, nB_e h (show t < 6 by omega), n8, refused_n M i30, cl2_q]
  · simp only [isTable_in h ht, cl_q, st_q, i10, if_false, isFree_eq M (show t < 6 by omega), hf1, if_true, refused_n M i30, cl2_q]
theorem sp_addBumper (h : WM M) (ht : t < nT M) {i2 i3 i4 i5 : Int32} (ha : arBm i2 i3 i4 i5) (hf : M 7 t = -1) (h8 : nB M t < 8) : fX10_addBumper M (nI t) i2 i3 i4 i5 = some (nI (nB M t), mBm M t (nB M t) i2 i3 (i4 / 100) (i4 - i4 / 100 * 100) i5) := by
  have h6 := nT6 h
  have g6 : ¬ 6 ≤ t := by omega
  have ct : (nI t).toNatClampNeg = t := nI_clamp (by omega)
  rw [bm10_in ha]
  have n8 : ¬ (8 : Int32) ≤ nI (nB M t) := by rw [c8I]; exact nI_ge h8 (by omega)
  have e8 : (8 : Int32) * nI t + nI (nB M t) = nI (8 * t + nB M t) := ix8 _ _
  have c48 : (nI (8 * t + nB M t)).toNatClampNeg = 8 * t + nB M t := nI_clamp (by omega)
  have g48 : ¬ 48 ≤ 8 * t + nB M t := by omega
  unfold tailBm mBm
  simp (disch := omega) only [isTable_in h ht, cl_q, st_q, i10, if_false, isFree_eq M (show t < 6 by omega), hf, if_true, ct, nI_pos (show t < 2 ^ 31 by omega), false_or, g6, not_false_eq_true, gd_T, nB_e h (show t < 6 by omega), n8, refused_0, cl2_q, pM_s, pMn, e8, c48, g48, nI_pos (show 8 * t + nB M t < 2 ^ 31 by omega), nI_1, nI_pred]
theorem so_setPoints1 {i j x : Int32} (e : fX10_isSwitch M i j = some 0) : rfd M 1 (fX10_setPoints M i j x) := by
  refine rfd_n (b := 0) ?_
  unfold fX10_setPoints
  by_cases hr : inR x 0 1000
  · simp only [e, in_in hr, cl_s, st_s, cl2_s, if_true, refused_n M i10, i10, if_false]
  · simp only [e, in_out hr, cl_s, st_s, cl2_s, if_true, refused_n M i10, i10, if_false]
theorem so_setPoints2 (h : WM M) (ht : t < nT M) (hb : b < nB M t) {x : Int32} (hr : ¬ inR x 0 1000) : rfd M 2 (fX10_setPoints M (nI t) (nI b) x) := by
  refine rfd_n (b := 0) ?_
  unfold fX10_setPoints
  simp only [isSwitch_in h ht hb, in_out hr, cl_s, st_s, cl2_s, if_true, i10, if_false, refused_n M i20]
theorem so_setPoints3 (h : WM M) (ht : t < nT M) (hb : b < nB M t) {x : Int32} (hr : inR x 0 1000) (hf : ¬ M 7 t = -1) : rfd M 3 (fX10_setPoints M (nI t) (nI b) x) := by
  have h6 := nT6 h
  have g6 : ¬ (nI t < 0 ∨ 6 ≤ t) := fun q => q.elim (nI_pos (by omega)) (by omega)
  have ct6 : (nI t).toNatClampNeg = t := nI_clamp (by omega)
  refine rfd_n (b := 0) ?_
  unfold fX10_setPoints fX10_isFree
  simp only [isSwitch_in h ht hb, in_in hr, cl_s, st_s, cl2_s, if_true, i10, if_false, ct6, gd_t g6, hf, refused_n M i30]
theorem sp_setPoints (h : WM M) (ht : t < nT M) (hb : b < nB M t) {x : Int32} (hr : inR x 0 1000) (hf : M 7 t = -1) : fX10_setPoints M (nI t) (nI b) x = some (M 14 (8 * t + b), pM (pM M 0 0 0) 14 (8 * t + b) x) := by
  obtain ⟨ht6, hb8⟩ := bump h ht hb
  have g : ¬ (nI (8 * t + b) < 0 ∨ 48 ≤ 8 * t + b) := by have := in48 ht6 hb8; rw [cl48 ht6 hb8] at this; exact of_eq_true this
  have g6 : ¬ (nI t < 0 ∨ 6 ≤ t) := fun q => q.elim (nI_pos (by omega)) (by omega)
  have ct6 : (nI t).toNatClampNeg = t := nI_clamp (by omega)
  unfold fX10_setPoints fX10_isFree
  simp only [isSwitch_in h ht hb, in_in hr, cl_s, st_s, cl2_s, if_true, refused_0, i10, if_false, ct6, gd_t g6, hf, ix8, cl48 ht6 hb8, gd_t g]
  rfl
theorem so_setMode1 (h : WM M) {i1 i2 i3 i4 i5 : Int32} (hi : (i1 < 0 ∨ nI (nT M) ≤ i1) ∨ ∃ t, t < nT M ∧ i1 = nI t ∧ ¬ arSm M t i2 i3) : rfd M 1 (fX10_setMode M i1 i2 i3 i4 i5) := by
  have e0 : fX10_setMode M i1 i2 i3 i4 i5 = tailSm M i1 i2 i3 i4 i5 0 := by
    rcases hi with hi | ⟨t, ht, rfl, ha⟩
    · rw [sm10_1]
      simp only [isTable_out h hi, cl_q, st_q, if_true]
    · exact sm10_out h ht ha
  refine rfd_n (b := 0) ?_
  rw [e0]
  by_cases hf : fiSm i3 i4 i5
  · rw [sm10_fi hf]
    unfold tailSn
    simp only [st_q, if_true, i10, if_false, refused_n M i10, cl2_q]
  · rw [sm10_fo hf]
    unfold tailSn
    simp only [st_q, if_true, i10, if_false, refused_n M i10, cl2_q]
theorem so_setMode2 (h : WM M) (ht : t < nT M) {i2 i3 i4 i5 : Int32} (ha : arSm M t i2 i3) (hf : ¬ fiSm i3 i4 i5) : rfd M 2 (fX10_setMode M (nI t) i2 i3 i4 i5) := by
  refine rfd_n (b := 0) ?_
  rw [sm10_in h ht ha, sm10_fo hf]
  unfold tailSn
  simp only [st_q, i10, if_false, if_true, refused_n M i20, cl2_q]
theorem so_setMode3 (h : WM M) (ht : t < nT M) {i2 i3 i4 i5 : Int32} (ha : arSm M t i2 i3) (hf : fiSm i3 i4 i5) (hfr : ¬ M 7 t = -1) : rfd M 3 (fX10_setMode M (nI t) i2 i3 i4 i5) := by
  have h6 := nT6 h
  refine rfd_n (b := 0) ?_
  rw [sm10_in h ht ha, sm10_fi hf]
  unfold tailSn
  simp only [st_q, i10, if_false, isFree_eq M (show t < 6 by omega), hfr, if_true, cl_q, refused_n M i30, cl2_q]
theorem sp_setMode (h : WM M) (ht : t < nT M) {j : Nat} (hj4 : j < 4) {i3 i4 i5 : Int32} (ha : arSm M t (nI j) i3) (hf : fiSm i3 i4 i5) (hfr : M 7 t = -1) : ∃ x7 x8 : Int32, ((i3 = -1 ∧ x7 = -1 ∧ x8 = 0) ∨ (¬ i3 = -1 ∧ x7 = i3 / 10 ∧ x8 = i3 - i3 / 10 * 10)) ∧ fX10_setMode M (nI t) (nI j) i3 i4 i5 = some (if M 17 (4 * t + j) = -1 then 0 else 1, mSm M t j x7 x8 (i4 / 100) (i4 - i4 / 100 * 100) i5) := by
  have h6 := nT6 h
  have c24 : (nI (4 * t + j)).toNatClampNeg = 4 * t + j := nI_clamp (by omega)
  have g24 : ¬ 24 ≤ 4 * t + j := by omega
  have ref : ∀ x7 x8 : Int32, (i3 = -1 ∧ x7 = -1 ∧ x8 = 0) ∨ (¬ i3 = -1 ∧ x7 = i3 / 10 ∧ x8 = i3 - i3 / 10 * 10) → tailSn M (nI t) (nI j) i3 i4 i5 1 1 = some (if M 17 (4 * t + j) = -1 then 0 else 1, mSm M t j x7 x8 (i4 / 100) (i4 - i4 / 100 * 100) i5) := by
    intro x7 x8 hx
    unfold tailSn mSm
    by_cases q1 : M 17 (4 * t + j) = -1
    · rcases hx with ⟨a1, a2, a3⟩ | ⟨a1, a2, a3⟩
      · simp (disch := omega) only [st_q, i10, if_false, isFree_eq M (show t < 6 by omega), hfr, if_true, cl_q, refused_0, cl2_q, ix4, c24, nI_pos (show 4 * t + j < 2 ^ 31 by omega), false_or, g24, not_false_eq_true, gd_T, pMn, q1, a1, a2, a3]
      · simp (disch := omega) only [st_q, i10, if_false, isFree_eq M (show t < 6 by omega), hfr, if_true, cl_q, refused_0, cl2_q, ix4, c24, nI_pos (show 4 * t + j < 2 ^ 31 by omega), false_or, g24, not_false_eq_true, gd_T, pMn, q1, a1, a2, a3]
    · rcases hx with ⟨a1, a2, a3⟩ | ⟨a1, a2, a3⟩
      · simp (disch := omega) only [st_q, i10, if_false, isFree_eq M (show t < 6 by omega), hfr, if_true, cl_q, refused_0, cl2_q, ix4, c24, nI_pos (show 4 * t + j < 2 ^ 31 by omega), false_or, g24, not_false_eq_true, gd_T, pMn, q1, a1, a2, a3]
      · simp (disch := omega) only [st_q, i10, if_false, isFree_eq M (show t < 6 by omega), hfr, if_true, cl_q, refused_0, cl2_q, ix4, c24, nI_pos (show 4 * t + j < 2 ^ 31 by omega), false_or, g24, not_false_eq_true, gd_T, pMn, q1, a1, a2, a3]
  by_cases hm1 : i3 = -1
  · refine ⟨-1, 0, Or.inl ⟨hm1, rfl, rfl⟩, ?_⟩
    rw [sm10_in h ht ha, sm10_fi hf]
    exact ref (-1) 0 (Or.inl ⟨hm1, rfl, rfl⟩)
  · refine ⟨_, _, Or.inr ⟨hm1, rfl, rfl⟩, ?_⟩
    rw [sm10_in h ht ha, sm10_fi hf]
    exact ref _ _ (Or.inr ⟨hm1, rfl, rfl⟩)
theorem so_stick1 {i j : Int32} (e : fX10_isSwitch M i j = some 0) : rfd M 1 (fX10_stick M i j) := by
  refine rfd_n (b := 0) ?_
  unfold fX10_stick
  simp only [e, cl_s, st_s, cl2_s, if_true, refused_n M i10, i10, if_false]
theorem so_stick2 (h : WM M) (ht : t < nT M) (hb : b < nB M t) (hst : ¬ M 16 (8 * t + b) = -1 ∨ (60 : Int32) ≤ M 22 0) : rfd M 2 (fX10_stick M (nI t) (nI b)) := by
  obtain ⟨ht6, hb8⟩ := bump h ht hb
  have g : ¬ (nI (8 * t + b) < 0 ∨ 48 ≤ 8 * t + b) := by have := in48 ht6 hb8; rw [cl48 ht6 hb8] at this; exact of_eq_true this
  refine rfd_n (b := 0) ?_
  unfold fX10_stick
  by_cases h1 : M 16 (8 * t + b) = -1
  · have h60 := hst.resolve_left (fun q => q h1)
    simp only [isSwitch_in h ht hb, cl_s, st_s, cl2_s, i10, if_false, ix8, cl48 ht6 hb8, gd_t g, h1, if_true, h60, refused_n M i20]
  · simp only [isSwitch_in h ht hb, cl_s, st_s, cl2_s, i10, if_false, ix8, cl48 ht6 hb8, gd_t g, h1, if_true, refused_n M i20]
theorem sp_stick (h : WM M) (ht : t < nT M) (hb : b < nB M t) (hst : M 16 (8 * t + b) = -1) (h60 : ¬ (60 : Int32) ≤ M 22 0) : fX10_stick M (nI t) (nI b) = some (M 22 0, pM (pM (pM M 0 0 0) 16 (8 * t + b) (M 22 0)) 22 0 (M 22 0 + 1)) := by
  obtain ⟨ht6, hb8⟩ := bump h ht hb
  have g : ¬ (nI (8 * t + b) < 0 ∨ 48 ≤ 8 * t + b) := by have := in48 ht6 hb8; rw [cl48 ht6 hb8] at this; exact of_eq_true this
  unfold fX10_stick
  have e1 : pM M 0 0 0 22 0 = M 22 0 := rfl
  have e2 : pM (pM M 0 0 0) 16 (8 * t + b) (M 22 0) 22 0 = M 22 0 := rfl
  simp only [isSwitch_in h ht hb, cl_s, st_s, cl2_s, i10, if_false, ix8, cl48 ht6 hb8, gd_t g, hst, if_true, h60, refused_0, e1, e2, pM_s]
  rw [nS_e h, nI_1, nI_pred]
theorem so_coin1 (h : WM M) {i : Int32} (hi : i < 0 ∨ nI (nT M) ≤ i) : rfd M 1 (fX10_coin M i) := by
  refine rfd_n (b := 0) ?_
  rw [coin10]
  unfold coT
  simp only [isTable_out h hi, cl_q, st_q, if_true, refused_n M i10, cl2_q, i10, if_false]
theorem so_coin2 (h : WM M) (ht : t < nT M) (hf : ¬ M 7 t = -1 ∨ nG M = 40) : rfd M 2 (fX10_coin M (nI t)) := by
  have h6 := nT6 h
  refine rfd_n (b := 0) ?_
  rw [coin10]
  unfold coT
  by_cases hf1 : M 7 t = -1
  · have e40 := hf.resolve_left (fun q => q hf1)
    have n40 : (40 : Int32) ≤ nI (nG M) := by rw [c40I]; exact nI_le (by omega) (by omega)
    simp only [isTable_in h ht, cl_q, st_q, i10, if_false, isFree_eq M (show t < 6 by omega), hf1, if_true, nG_e h, n40, refused_n M i20, cl2_q]
  · simp only [isTable_in h ht, cl_q, st_q, i10, if_false, isFree_eq M (show t < 6 by omega), hf1, if_true, refused_n M i20, cl2_q]
theorem sp_coin (h : WM M) (ht : t < nT M) (hf : M 7 t = -1) (h40 : nG M < 40) : fX10_coin M (nI t) = some (nI (nG M), pM (pM (pM (mCo (pM M 0 0 0) t (nG M)) 7 t (nI (nG M))) 4 t (M 4 t + M 3 t)) 5 t (M 5 t + M 3 t)) := by
  have h6 := nT6 h
  obtain ⟨M1, m1, m2⟩ := coX_eq (g := nG M) (M := pM M 0 0 0) h ht rfl h40 rfl
  have n40 : ¬ (40 : Int32) ≤ nI (nG M) := by rw [c40I]; exact nI_ge h40 (by omega)
  have m2 : M1 = pM (pM (pM (mCo (pM M 0 0 0) t (nG M)) 7 t (nI (nG M))) 4 t (M 4 t + M 3 t)) 5 t (M 5 t + M 3 t) := m2
  rw [← m2, coin10]
  unfold coT
  simp only [isTable_in h ht, cl_q, st_q, i10, if_false, isFree_eq M (show t < 6 by omega), hf, if_true, nG_e h, n40, refused_0, cl2_q, m1]
theorem so_shoot1 (h : WM M) {i1 i2 i3 i4 : Int32} (hi : i1 < 0 ∨ nI (nT M) ≤ i1) : rfd M 1 (fX10_shoot M i1 i2 i3 i4) := by
  have key : ∀ y : Int32, shT M i1 i2 i3 i4 y = some (0, pM M 0 0 1) := by
    intro y
    unfold shT
    rw [st_s, isTable_out h hi, cl_s, st_s, if_pos rfl]
    dsimp only
    rw [refused_n M i10, cl2_s, if_neg i10]
  refine rfd_n (b := 0) ?_
  by_cases a : arSh i2 i3 i4
  · rw [sh10_in a, key]
  · rw [sh10_out a, key]
theorem so_shoot2 (h : WM M) (ht : t < nT M) {i2 i3 i4 : Int32} (a : ¬ arSh i2 i3 i4) : rfd M 2 (fX10_shoot M (nI t) i2 i3 i4) := by
  refine rfd_n (b := 0) ?_
  rw [sh10_out a]
  unfold shT
  rw [st_s, isTable_in h ht, cl_s, st_s, if_neg i10, if_pos rfl]
  dsimp only
  rw [refused_n M i20, cl2_s, if_neg i10]
theorem so_shoot3 (h : WM M) (ht : t < nT M) {i2 i3 i4 : Int32} (a : arSh i2 i3 i4) (e7 : M 7 t = -1) : rfd M 3 (fX10_shoot M (nI t) i2 i3 i4) := by
  have h6 := nT6 h
  refine rfd_n (b := 0) ?_
  rw [sh10_in a]
  unfold shT
  rw [st_s, isTable_in h ht, cl_s, st_s, if_neg i10, if_neg i10, isFree_eq M (show t < 6 by omega), e7, if_pos rfl, cl_s, if_neg i10]
  dsimp only
  rw [refused_n M i30, cl2_s, if_neg i10]
theorem sp_shoot (h : Tie S M) (ht : t < nT M) {i2 i3 i4 : Int32} (a : arSh i2 i3 i4) (hg : g < nG M) (e7 : M 7 t = nI g) (e25 : M 25 g = nI t) (eL0 : 0 < nL M g) : ∃ (bi N : Nat) (Sb S1 : zSt) (M1 : zMs) (v7 : Int32), bi < 3 ∧ nL M g = 3 - bi ∧ fX10_roll (ldM (soM (pM M 0 0 0) t (3 * g + bi) 8) g 3) (nI t) (nI (3 * g + bi)) i2 i3 i4 = some (pM M1 37 (3 * g + bi) (nI N)) ∧ ShH S (pM M 0 0 0) t g (nB M t) bi Sb (ldM (soM (pM M 0 0 0) t (3 * g + bi) 8) g 3) S1 M1 N ∧ ((bi = 2 ∧ v7 = -1) ∨ (bi < 2 ∧ v7 = nI g)) ∧
    fX10_shoot M (nI t) i2 i3 i4 = some (M1 41 0 - M 27 g, mSh M1 t g bi N v7) ∧ mSh M1 t g bi N v7 0 0 = 0 := by
  have h6 := nT6 h.1
  have hG := nG40 h.1
  obtain ⟨bi, hbi, hL⟩ : ∃ bi, bi < 3 ∧ nL M g = 3 - bi := ⟨3 - nL M g, by omega, by have := nL3 h.1 hg; omega⟩
  have e7n : ¬ M 7 t = -1 := by rw [e7]; exact of_eq_false (nI_m (by omega))
  have h0 := tie_ref h 0
  have hb := eqX_nw S (1, 0, 0) (fun k => ([i2, (0 : Int32), i3, i4] : List Int32).getD k 0) (fun _ => 0) (fun _ => none) (fun _ => 0)
  have hBL : BL (nw S (1, 0, 0) (fun k => ([i2, (0 : Int32), i3, i4] : List Int32).getD k 0) (fun _ => 0) (fun _ => none) (fun _ => 0)) i2 0 i3 i4 := by
    unfold BL
    rw [zI_nw, if_pos rfl]
    exact ⟨rfl, rfl, rfl, rfl⟩
  have q7 : pM M 0 0 0 7 t = nI g := by rw [pMn (by decide)]; exact e7
  have q25 : pM M 0 0 0 25 g = nI t := by rw [pMn (by decide)]; exact e25
  have q27 : pM M 0 0 0 27 g = M 27 g := by rw [pMn (by decide)]
  have q00 : pM M 0 0 0 0 0 = 0 := pM_s _ _ _
  have hsT : shT M (nI t) i2 i3 i4 1 = shX (nI t) i2 i3 i4 (pM M 0 0 0) := by
    unfold shT
    rw [st_s, isTable_in h.1 ht, cl_s, st_s, if_neg i10, if_neg i10, isFree_eq M (show t < 6 by omega), if_neg e7n, cl_s, if_pos rfl]
    dsimp only
    rw [refused_0, cl2_s, if_pos rfl]
  have ht0 : t < nT (pM M 0 0 0) := ht
  have hg0 : g < nG (pM M 0 0 0) := hg
  have hL0 : nL (pM M 0 0 0) g = 3 - bi := hL
  have hn0 : nB (pM M 0 0 0) t = nB M t := rfl
  rw [sh10_in a, hsT, ← q27]
  generalize pM M 0 0 0 = M0 at *
  generalize nw S (1, 0, 0) (fun k => ([i2, (0 : Int32), i3, i4] : List Int32).getD k 0) (fun _ => 0) (fun _ => none) (fun _ => 0) = Sb at *
  obtain ⟨S1, M1, N, r1, r2, r3⟩ := sh_run h0 q00 ht0 hg0 q25 hL0 hbi hb hBL (spd_R a.2.1) (spd_R a.2.2)
  obtain ⟨-, -, -, -, -, m5, -⟩ := id r3
  obtain ⟨s1, s2, -, -, -, -, z35⟩ := m5
  have h26 : M1 26 = M0 26 := by
    rw [s2.1 26 (by decide) (by decide) (by decide) (by decide) (by decide) (by decide)]
    exact shMb M0 t g bi (by decide) (by decide)
  have hv7 : ((bi = 2 ∧ (if nI (2 - bi) = 0 then (-1 : Int32) else nI g) = -1) ∨ (bi < 2 ∧ (if nI (2 - bi) = 0 then (-1 : Int32) else nI g) = nI g)) := by
    by_cases e : bi = 2
    · exact Or.inl ⟨e, by rw [e, if_pos (by decide)]⟩
    · exact Or.inr ⟨by omega, by rw [if_neg (nI_ne0 (by omega) (by omega))]⟩
  have x := shX_eq h0 ht0 hg0 q7 hL0 hbi r2 h26 rfl
  rw [hn0] at r3
  exact ⟨bi, N, Sb, S1, M1, _, hbi, hL, r2, r3, hv7, x, sh_00 r3⟩
theorem so_rob1 (h : WM M) {i i2 : Int32} (hi : i < 0 ∨ nI (nT M) ≤ i) : rfd M 1 (fX10_rob M i i2) := by
  refine rfd_n (b := 0) ?_
  unfold fX10_rob
  by_cases hr : inR i2 1 100
  · simp only [in_in hr, isTable_out h hi, cl_s, st_s, cl2_s, if_true, refused_n M i10, i10, if_false]
  · simp only [in_out hr, isTable_out h hi, cl_s, st_s, cl2_s, if_true, refused_n M i10, i10, if_false]
theorem so_rob2 (h : WM M) (ht : t < nT M) {i2 : Int32} (hr : ¬ inR i2 1 100) : rfd M 2 (fX10_rob M (nI t) i2) := by
  refine rfd_n (b := 0) ?_
  unfold fX10_rob
  simp only [in_out hr, isTable_in h ht, cl_s, st_s, cl2_s, if_true, i10, if_false, refused_n M i20]
theorem so_rob3 (h : WM M) (ht : t < nT M) {i2 : Int32} (hr : inR i2 1 100) (hb : ¬ i2 ≤ M 4 t) : rfd M 3 (fX10_rob M (nI t) i2) := by
  have h6 := nT6 h
  have hc : (nI t).toNatClampNeg = t := nI_clamp (by omega)
  have hg : (¬ (nI t < 0 ∨ 6 ≤ t)) = True := eq_true (fun q => q.elim (nI_pos (by omega)) (by omega))
  refine rfd_n (b := 0) ?_
  unfold fX10_rob
  simp only [in_in hr, isTable_in h ht, cl_s, st_s, cl2_s, if_true, i10, if_false, hg, gd_T, hc, Int32.not_le.mp hb, refused_n M i30]
theorem sp_rob (h : WM M) (ht : t < nT M) {i2 : Int32} (hr : inR i2 1 100) (hb : i2 ≤ M 4 t) : fX10_rob M (nI t) i2 = some (M 4 t - i2, pM (pM M 0 0 0) 4 t (M 4 t - i2)) := by
  have h6 := nT6 h
  have hc : (nI t).toNatClampNeg = t := nI_clamp (by omega)
  have hg : (¬ (nI t < 0 ∨ 6 ≤ t)) = True := eq_true (fun q => q.elim (nI_pos (by omega)) (by omega))
  unfold fX10_rob
  simp only [in_in hr, isTable_in h ht, cl_s, st_s, cl2_s, if_true, refused_0, i10, if_false, hg, gd_T, hc, nlt_of hb, pM_s]
  rfl
theorem so_load1 {i j x : Int32} (e2 : fX10_isVan M i = some 0) : rfd M 1 (fX10_load_ M i j x) := by
  refine rfd_n (b := 0) ?_
  unfold fX10_load_
  by_cases hj : inR j 0 1
  · by_cases hx : inR x 1 20
    · simp only [e2, cl_s, st_s, in_in hj, in_in hx, i10, if_false, if_true, refused_n M i10, cl2_s]
    · simp only [e2, cl_s, st_s, in_in hj, in_out hx, i10, if_false, if_true, refused_n M i10, cl2_s]
  · simp only [e2, cl_s, st_s, in_out hj, i10, if_false, if_true, refused_n M i10, cl2_s]
theorem so_load2 (hv : v < 2) {j x : Int32} (hr : ¬ (inR j 0 1 ∧ inR x 1 20)) : rfd M 2 (fX10_load_ M (nI v) j x) := by
  refine rfd_n (b := 0) ?_
  unfold fX10_load_
  by_cases hj : inR j 0 1
  · by_cases hx : inR x 1 20
    · exact absurd ⟨hj, hx⟩ hr
    · simp only [isVan_in hv, cl_s, st_s, in_in hj, in_out hx, i10, if_false, if_true, refused_n M i20, cl2_s]
  · simp only [isVan_in hv, cl_s, st_s, in_out hj, i10, if_false, if_true, refused_n M i20, cl2_s]
theorem so_load3 (hv : v < 2) (hk : k < 2) {x : Int32} (hx : inR x 1 20) (h20 : (20 : Int32) < M 50 (2 * v + k) + x) : rfd M 3 (fX10_load_ M (nI v) (nI k) x) := by
  refine rfd_n (b := 0) ?_
  unfold fX10_load_
  simp only [isVan_in hv, cl_s, st_s, in_in (kind_in hk), in_in hx, i10, if_false, if_true, ix2, cl4 hv hk, gd_t (in4 hv hk), h20, refused_n M i30, cl2_s]
theorem sp_load (hv : v < 2) (hk : k < 2) {x : Int32} (hx : inR x 1 20) (h20 : ¬ (20 : Int32) < M 50 (2 * v + k) + x) : fX10_load_ M (nI v) (nI k) x = some (M 50 (2 * v + k) + x, pM (pM M 0 0 0) 50 (2 * v + k) (M 50 (2 * v + k) + x)) := by
  have e0 : pM M 0 0 0 50 (2 * v + k) = M 50 (2 * v + k) := rfl
  unfold fX10_load_
  simp only [isVan_in hv, cl_s, st_s, in_in (kind_in hk), in_in hx, i10, if_false, if_true, ix2, cl4 hv hk, gd_t (in4 hv hk), h20, refused_0, cl2_s, e0, pM_s]
theorem so_go1 {i : Int32} (e2 : fX10_isVan M i = some 0) : rfd M 1 (fX10_go M i) := by
  refine rfd_n (b := 0) ?_
  unfold fX10_go
  simp only [e2, cl_q, st_q, if_true, refused_n M i10, cl2_q, i10, if_false]
theorem so_go2 (hv : v < 2) {M1 : zMs} (e10 : fX10_makePlan M (nI v) = some M1) (p7 : qF M M1) (p2 : M1 51 0 = 0) : rfd M 2 (fX10_go M (nI v)) := by
  have l0 : M1 51 0 ≤ 0 := by rw [p2]; exact Int32.le_refl _
  refine ⟨0, pM M1 0 0 2, ?_, eqM_t (qF_e p7) (eqM_ref 2), pM_s 0 0 2⟩
  unfold fX10_go
  simp only [isVan_in hv, cl_q, st_q, i10, if_false, e10, l0, if_true, refused_n M1 i20, cl2_q]
theorem sp_go1 (hv : v < 2) {M1 : zMs} (e10 : fX10_makePlan M (nI v) = some M1) {c : Nat} (hc0 : 0 < c) (hc : c ≤ 6) (p2 : M1 51 0 = nI c) : fX10_go M (nI v) = lp (bGo10 (nI v)) 40000 (0, 0, pM M1 0 0 0) := by
  have l0 : ¬ M1 51 0 ≤ 0 := by rw [p2]; exact nI_nle (by omega) (by omega)
  unfold fX10_go
  rw [isVan_in hv, cl_s, st_s, if_neg i10, e10, cl_s]
  show cl (fX10_isVan M1 (nI v)) _ = _
  rw [isVan_in hv, cl_s, st_s, if_neg i10, if_neg l0]
  show cl2 (fX10_refused M1 0) _ = _
  rw [refused_0, cl2_s, if_pos rfl, st_s, st_s]
  rfl
/-- a read: nothing that is seen changes -/
def rdE {β : Type} (M : zMs) (r : Option (β × zMs)) : Prop := ∀ b M', r = some (b, M') → eqM M M'
def wrE {β : Type} (M : zMs) (r : Option (β × zMs)) : Prop := ∀ b M', r = some (b, M') → M' 0 0 ≠ 0 → eqM M M'
theorem rdE_f {β : Type} {w : Int32} {r : Option (β × zMs)} (h : rfd M w r) : rdE M r := fun b M' e => by
  obtain ⟨b1, M1, e1, h1, -⟩ := h
  cases e1.symm.trans e
  exact h1
theorem rdE_d {β : Type} {v : β} {r : Option (β × zMs)} (h : rdd M v r) : rdE M r := fun b M' e => by
  obtain ⟨M1, e1, h1, -⟩ := h
  cases e1.symm.trans e
  exact h1
theorem wrE_f {β : Type} {w : Int32} {r : Option (β × zMs)} (h : rfd M w r) : wrE M r := fun b M' e _ => rdE_f h b M' e
theorem wrE_0 {β : Type} {r : Option (β × zMs)} {b : β} {M1 : zMs} (h : r = some (b, M1)) (h0 : M1 0 0 = 0) : wrE M r := fun b M' e hn => by
  cases h.symm.trans e
  exact absurd h0 hn
theorem van_3 (i : Int32) : (∃ v, v < 2 ∧ i = nI v) ∨ fX10_isVan M i = some 0 := by
  rcases van_c i with (rfl | rfl) | ⟨-, -, h⟩
  · exact Or.inl ⟨0, by omega, rfl⟩
  · exact Or.inl ⟨1, by omega, rfl⟩
  · exact Or.inr (isVan_n h)
theorem sw_3 (h : WM M) (i j : Int32) : (∃ t b, t < nT M ∧ b < nB M t ∧ i = nI t ∧ j = nI b) ∨ fX10_isSwitch M i j = some 0 := by
  have h6 := nT6 h
  rcases ixc i (nT M) (by omega) with hi | ⟨t, ht, rfl⟩
  · exact Or.inr (isSwitch_outT h hi j)
  · have h8 := nB8 h (t := t) (by omega)
    rcases ixc j (nB M t) (by omega) with hj | ⟨b, hb, rfl⟩
    · exact Or.inr (isSwitch_out h ht hj)
    · exact Or.inl ⟨t, b, ht, hb, rfl, rfl⟩
theorem tab_3 (h : WM M) (i : Int32) : (i < 0 ∨ nI (nT M) ≤ i) ∨ ∃ t, t < nT M ∧ i = nI t := ixc i (nT M) (by have := nT6 h; omega)
theorem gam_3 (h : WM M) (i : Int32) : (i < 0 ∨ nI (nG M) ≤ i) ∨ ∃ g, g < nG M ∧ i = nI g := ixc i (nG M) (by have := nG40 h; omega)
theorem mkp (h : Tie S M) (hv : v < 2) : ∃ M1, fX10_makePlan M (nI v) = some M1 ∧ qF M M1 ∧ M1 51 0 = nI (gaP (needB M) (nT M)).1 := by
  obtain ⟨S1, M1, e9, e10, p1, p2, -, -, -, p7⟩ := search_eq h hv
  exact ⟨M1, e10, p7, p2⟩
theorem gap6 (h : WM M) : (gaP (needB M) (nT M)).1 ≤ 6 := Nat.le_trans (gaP_le _ _) (nT6 h)
theorem rd_box (h : Tie S M) (i : Int32) : rdE M (fX10_box M i) := by
  rcases tab_3 h.1 i with hi | ⟨t, ht, rfl⟩
  · exact rdE_f (so_box h.1 hi)
  · exact rdE_d (sp_box h.1 ht)
theorem rd_missing (h : Tie S M) (i : Int32) : rdE M (fX10_missing M i) := by
  rcases tab_3 h.1 i with hi | ⟨t, ht, rfl⟩
  · exact rdE_f (so_missing h.1 hi)
  · exact rdE_d (sp_missing h.1 ht)
theorem rd_gameAt (h : Tie S M) (i : Int32) : rdE M (fX10_gameAt M i) := by
  rcases tab_3 h.1 i with hi | ⟨t, ht, rfl⟩
  · exact rdE_f (so_gameAt h.1 hi)
  · exact rdE_d (sp_gameAt h.1 ht)
theorem rd_score (h : Tie S M) (i : Int32) : rdE M (fX10_score M i) := by
  rcases gam_3 h.1 i with hi | ⟨t, ht, rfl⟩
  · exact rdE_f (so_score h.1 hi)
  · exact rdE_d (sp_score h.1 ht)
theorem rd_ballsLeft (h : Tie S M) (i : Int32) : rdE M (fX10_ballsLeft M i) := by
  rcases gam_3 h.1 i with hi | ⟨t, ht, rfl⟩
  · exact rdE_f (so_ballsLeft h.1 hi)
  · exact rdE_d (sp_ballsLeft h.1 ht)
theorem rd_stack (h : Tie S M) (i : Int32) : rdE M (fX10_stack M i) := by
  rcases gam_3 h.1 i with hi | ⟨t, ht, rfl⟩
  · exact rdE_f (so_stack h.1 hi)
  · exact rdE_d (sp_stack h.1 ht)
theorem rd_logged (h : Tie S M) (i : Int32) : rdE M (fX10_logged M i) := by
  rcases gam_3 h.1 i with hi | ⟨t, ht, rfl⟩
  · exact rdE_f (so_logged h.1 hi)
  · exact rdE_d (sp_logged h.1 ht)
theorem rd_twin (h : Tie S M) (i : Int32) : rdE M (fX10_twin M i) := by
  rcases gam_3 h.1 i with hi | ⟨t, ht, rfl⟩
  · exact rdE_f (so_twin h.1 hi)
  · exact rdE_d (sp_twin h.1 ht)
theorem rd_scoreByLog (h : Tie S M) (i : Int32) : rdE M (fX10_scoreByLog M i) := by
  rcases gam_3 h.1 i with hi | ⟨t, ht, rfl⟩
  · exact rdE_f (so_scoreByLog h.1 hi)
  · obtain ⟨s, M1, e1, -, -, h1, h0, -⟩ := sp_replay 0 h ht
    exact rdE_d ⟨M1, e1, h1, h0⟩
theorem rd_valid (h : Tie S M) (i : Int32) : rdE M (fX10_valid M i) := by
  rcases gam_3 h.1 i with hi | ⟨t, ht, rfl⟩
  · exact rdE_f (so_valid h.1 hi)
  · obtain ⟨s, M1, e1, -, -, h1, h0, -⟩ := sp_replay 1 h ht
    exact rdE_d ⟨M1, e1, h1, h0⟩
theorem rd_vanAt (h : Tie S M) (i : Int32) : rdE M (fX10_vanAt M i) := by
  rcases van_c i with (rfl | rfl) | ⟨-, -, h⟩
  · exact rdE_d (sp_vanAt (v := 0) (by omega))
  · exact rdE_d (sp_vanAt (v := 1) (by omega))
  · exact rdE_f (so_vanAt h)
theorem rd_parts (h : Tie S M) (i j : Int32) : rdE M (fX10_parts M i j) := by
  rcases van_3 (M := M) i with ⟨v, hv, rfl⟩ | hi
  · by_cases hj : inR j 0 1
    · obtain ⟨k, hk, rfl⟩ := kind_of hj
      exact rdE_d (sp_parts hv hk)
    · exact rdE_f (so_parts2 hv hj)
  · exact rdE_f (so_parts1 hi)
theorem rd_wanted (h : Tie S M) (i : Int32) : rdE M (fX10_wanted M i) := by
  by_cases hr : inR i 0 1
  · obtain ⟨k, hk, rfl⟩ := kind_of hr
    exact rdE_d (sp_wanted h.1 hk)
  · exact rdE_f (so_wanted hr)
theorem rd_wear (h : Tie S M) (i j : Int32) : rdE M (fX10_wear M i j) := by
  rcases sw_3 h.1 i j with ⟨t, b, ht, hb, rfl, rfl⟩ | e
  · exact rdE_d (sp_wear h.1 ht hb)
  · exact rdE_f (so_wear e)
theorem rd_sticks (h : Tie S M) (i j : Int32) : rdE M (fX10_sticks M i j) := by
  rcases sw_3 h.1 i j with ⟨t, b, ht, hb, rfl, rfl⟩ | e
  · exact rdE_d (sp_sticks h.1 ht hb)
  · exact rdE_f (so_sticks e)
theorem rd_entryAt (h : Tie S M) (i j : Int32) : rdE M (fX10_entryAt M i j) := by
  rcases gam_3 h.1 i with hi | ⟨g, hg, rfl⟩
  · exact rdE_f (so_entryG h.1 hi)
  · by_cases hj : j < 0
    · exact rdE_f (so_entryN h.1 hg hj)
    · obtain ⟨k, hk, rfl⟩ := nI_of hj
      by_cases hkl : k < (ents M g).length
      · exact rdE_d (sp_entryAt h.1 hg (List.getElem?_eq_getElem hkl))
      · exact rdE_f (so_entryL h.1 hg hk (Nat.not_lt.mp hkl))
theorem rd_high (h : Tie S M) (i p : Int32) : rdE M (fX10_high M i p) := by
  rcases tab_3 h.1 i with hi | ⟨t, ht, rfl⟩
  · exact rdE_f (so_high1 h.1 hi)
  · by_cases hp : p < 0
    · exact rdE_f (so_high2 h.1 ht hp)
    · obtain ⟨v, hv⟩ := sp_highE h ht hp
      exact rdE_d hv
theorem rd_way (h : Tie S M) (i : Int32) : rdE M (fX10_way M i) := by
  rcases van_3 (M := M) i with ⟨v, hv, rfl⟩ | hi
  · obtain ⟨S1, M1, -, -, -, h1⟩ := sp_way h hv
    exact rdE_d h1
  · exact rdE_f (so_way hi)
theorem rd_planned (h : Tie S M) (i j : Int32) : rdE M (fX10_planned M i j) := by
  rcases van_3 (M := M) i with ⟨v, hv, rfl⟩ | hi
  · by_cases hj : j < 0
    · exact rdE_f (so_plannedN hv hj)
    · obtain ⟨k, hk, rfl⟩ := nI_of hj
      obtain ⟨M1, e10, p7, p2⟩ := mkp h hv
      by_cases hkc : k < (gaP (needB M) (nT M)).1
      · exact rdE_d (sp_planned hv e10 p7 (gap6 h.1) p2 hkc)
      · exact rdE_f (so_plannedL hv e10 p7 (gap6 h.1) p2 hk (Nat.not_lt.mp hkc))
  · exact rdE_f (so_plannedV hi)
theorem wr_addTable (h : Tie S M) (i j : Int32) : wrE M (fX10_addTable M i j) := by
  by_cases hr : inR i 0 100 ∧ inR j 1 9
  · by_cases h6 : nT M < 6
    · exact wrE_0 (sp_addTable h.1 hr.1 hr.2 h6) rfl
    · exact wrE_f (so_addTable6 h.1 hr.1 hr.2 (by have := nT6 h.1; omega))
  · exact wrE_f (so_addTable hr)
theorem mBm_00 {i2 i3 iw ih i5 : Int32} : mBm M t b i2 i3 iw ih i5 0 0 = 0 := rfl
theorem mSm_00 {j : Nat} {x7 x8 x9 x0 x1 : Int32} : mSm M t j x7 x8 x9 x0 x1 0 0 = 0 := rfl
theorem wr_addBumper (h : Tie S M) (i1 i2 i3 i4 i5 : Int32) : wrE M (fX10_addBumper M i1 i2 i3 i4 i5) := by
  rcases tab_3 h.1 i1 with hi | ⟨t, ht, rfl⟩
  · exact wrE_f (so_addBumper1 h.1 hi)
  · have h6 := nT6 h.1
    have h8 := nB8 h.1 (t := t) (by omega)
    by_cases ha : arBm i2 i3 i4 i5
    · by_cases hf : M 7 t = -1 ∧ nB M t < 8
      · exact wrE_0 (sp_addBumper h.1 ht ha hf.1 hf.2) mBm_00
      · exact wrE_f (so_addBumper3 h.1 ht ha (by
          by_cases e : M 7 t = -1
          · exact Or.inr (by have : ¬ nB M t < 8 := fun q => hf ⟨e, q⟩; omega)
          · exact Or.inl e))
    · exact wrE_f (so_addBumper2 h.1 ht ha)
theorem wr_setPoints (h : Tie S M) (i j x : Int32) : wrE M (fX10_setPoints M i j x) := by
  rcases sw_3 h.1 i j with ⟨t, b, ht, hb, rfl, rfl⟩ | e
  · by_cases hr : inR x 0 1000
    · by_cases hf : M 7 t = -1
      · exact wrE_0 (sp_setPoints h.1 ht hb hr hf) rfl
      · exact wrE_f (so_setPoints3 h.1 ht hb hr hf)
    · exact wrE_f (so_setPoints2 h.1 ht hb hr)
  · exact wrE_f (so_setPoints1 e)
theorem wr_setMode (h : Tie S M) (i1 i2 i3 i4 i5 : Int32) : wrE M (fX10_setMode M i1 i2 i3 i4 i5) := by
  rcases tab_3 h.1 i1 with hi | ⟨t, ht, rfl⟩
  · exact wrE_f (so_setMode1 h.1 (Or.inl hi))
  · by_cases ha : arSm M t i2 i3
    · by_cases hf : fiSm i3 i4 i5
      · by_cases hfr : M 7 t = -1
        · obtain ⟨j, -, hj, rfl⟩ := inR_of ha.1 (m := 0) (n := 3) (by decide) (by decide) (by decide) (by decide)
          obtain ⟨x7, x8, -, e⟩ := sp_setMode h.1 ht (show j < 4 by omega) ha hf hfr
          exact wrE_0 e mSm_00
        · exact wrE_f (so_setMode3 h.1 ht ha hf hfr)
      · exact wrE_f (so_setMode2 h.1 ht ha hf)
    · exact wrE_f (so_setMode1 h.1 (Or.inr ⟨t, ht, rfl, ha⟩))
theorem wr_stick (h : Tie S M) (i j : Int32) : wrE M (fX10_stick M i j) := by
  rcases sw_3 h.1 i j with ⟨t, b, ht, hb, rfl, rfl⟩ | e
  · by_cases h1 : M 16 (8 * t + b) = -1
    · by_cases h60 : (60 : Int32) ≤ M 22 0
      · exact wrE_f (so_stick2 h.1 ht hb (Or.inr h60))
      · exact wrE_0 (sp_stick h.1 ht hb h1 h60) rfl
    · exact wrE_f (so_stick2 h.1 ht hb (Or.inl h1))
  · exact wrE_f (so_stick1 e)
theorem wr_coin (h : Tie S M) (i : Int32) : wrE M (fX10_coin M i) := by
  rcases tab_3 h.1 i with hi | ⟨t, ht, rfl⟩
  · exact wrE_f (so_coin1 h.1 hi)
  · by_cases hf : M 7 t = -1 ∧ nG M < 40
    · exact wrE_0 (sp_coin h.1 ht hf.1 hf.2) mCo_00
    · exact wrE_f (so_coin2 h.1 ht (by
        by_cases e : M 7 t = -1
        · exact Or.inr (by have : ¬ nG M < 40 := fun q => hf ⟨e, q⟩; have := nG40 h.1; omega)
        · exact Or.inl e))
theorem wr_shoot (h : Tie S M) (i1 i2 i3 i4 : Int32) : wrE M (fX10_shoot M i1 i2 i3 i4) := by
  rcases tab_3 h.1 i1 with hi | ⟨t, ht, rfl⟩
  · exact wrE_f (so_shoot1 h.1 hi)
  · by_cases a : arSh i2 i3 i4
    · rcases (h.1.2.2.2.2.1 t ht).2 with e7 | ⟨g, hg, e7, e25, eL0⟩
      · exact wrE_f (so_shoot3 h.1 ht a e7)
      · obtain ⟨bi, N, Sb, S1, M1, v7, -, -, -, -, -, e, e0⟩ := sp_shoot h ht a hg e7 e25 eL0
        exact wrE_0 e e0
    · exact wrE_f (so_shoot2 h.1 ht a)
theorem wr_rob (h : Tie S M) (i i2 : Int32) : wrE M (fX10_rob M i i2) := by
  rcases tab_3 h.1 i with hi | ⟨t, ht, rfl⟩
  · exact wrE_f (so_rob1 h.1 hi)
  · by_cases hr : inR i2 1 100
    · by_cases hb : i2 ≤ M 4 t
      · exact wrE_0 (sp_rob h.1 ht hr hb) rfl
      · exact wrE_f (so_rob3 h.1 ht hr hb)
    · exact wrE_f (so_rob2 h.1 ht hr)
theorem wr_load (h : Tie S M) (i j x : Int32) : wrE M (fX10_load_ M i j x) := by
  rcases van_3 (M := M) i with ⟨v, hv, rfl⟩ | hi
  · by_cases hr : inR j 0 1 ∧ inR x 1 20
    · obtain ⟨hj, hx⟩ := hr
      obtain ⟨k, hk, rfl⟩ := kind_of hj
      by_cases h20 : (20 : Int32) < M 50 (2 * v + k) + x
      · exact wrE_f (so_load3 hv hk hx h20)
      · exact wrE_0 (sp_load hv hk hx h20) rfl
    · exact wrE_f (so_load2 hv hr)
  · exact wrE_f (so_load1 hi)
theorem wr_go (h : Tie S M) (i : Int32) : wrE M (fX10_go M i) := by
  rcases van_3 (M := M) i with ⟨v, hv, rfl⟩ | hi
  · obtain ⟨S1, M1, e9, e10, h1, p7, s5, p2, a, bst, ha, e49, hPm, hb, h54, S2, M2, l9, l10, h2, h20, hR⟩ := go_eq h hv
    have hc := gap6 h.1
    by_cases hc0 : (gaP (needB M) (nT M)).1 = 0
    · exact wrE_f (so_go2 hv e10 p7 (by rw [p2, hc0]; exact nI_0))
    · exact wrE_0 ((sp_go1 hv e10 (by omega) hc p2).trans l10) h20
  · exact wrE_f (so_go1 hi)
end SP
