/-! THE WRAPPERS' ANSWERS in numbers -/
theorem st_v {α β : Type} {v v1 : α} {k : α → Option β} {r : Option β} (h : v = v1) (hk : k v1 = r) : st v k = r := by subst h; exact hk
theorem st_j {α β : Type} {v : α} {k : α → Option β} {r : Option β} (hk : k v = r) : st v k = r := hk
theorem if_t {β : Type} {c : Prop} [Decidable c] {a b r : Option β} (h : c) (ha : a = r) : (if c then a else b) = r := (if_pos h).trans ha
theorem if_f {β : Type} {c : Prop} [Decidable c] {a b r : Option β} (h : ¬ c) (hb : b = r) : (if c then a else b) = r := (if_neg h).trans hb
section VA
variable {S : zSt} {M : zMs} {t b g v k : Nat}
theorem an_d {nums : List Nat} {r : Option (Int32 × zMs)} {x : Int32} (h : rdd M x r) : an nums r = x := by
  obtain ⟨M1, e, -, h0⟩ := h
  subst e
  exact an_k h0
theorem ab_d {nums : List Nat} {r : Option (Int32 × zMs)} {x : Int32} (h : rdd M x r) : ab nums r = if x = 0 then 0 else 1 := by
  obtain ⟨M1, e, -, h0⟩ := h
  subst e
  exact ab_k h0
theorem al_d {r : Option (Int64 × zMs)} {x : Int64} (h : rdd M x r) : al r = x := by
  obtain ⟨M1, e, -, h0⟩ := h
  subst e
  exact al_k h0
theorem an_f {nums : List Nat} {r : Option (Int32 × zMs)} {w : Int32} (h : rfd M w r) (hw : w ≠ 0) : an nums r = exW nums w := by
  obtain ⟨b, M1, e, -, h0⟩ := h
  subst e
  exact an_w h0 hw
theorem ab_f {nums : List Nat} {r : Option (Int32 × zMs)} {w : Int32} (h : rfd M w r) (hw : w ≠ 0) : ab nums r = exW nums w := by
  obtain ⟨b, M1, e, -, h0⟩ := h
  subst e
  exact ab_w h0 hw
theorem al_f {r : Option (Int64 × zMs)} {w : Int32} (h : rfd M w r) (hw : w ≠ 0) : al r = -2000000001 := by
  obtain ⟨b, M1, e, -, h0⟩ := h
  subst e
  exact al_w h0 hw
theorem nx_f {r : Option (Int32 × zMs)} {w : Int32} (h : rfd M w r) (hw : w ≠ 0) : nx M r = M := by
  obtain ⟨b, M1, e, -, h0⟩ := h
  subst e
  exact nx_w (by rw [h0]; exact hw)
theorem an_e {nums : List Nat} {r : Option (Int32 × zMs)} {b : Int32} {M1 : zMs} (h : r = some (b, M1)) (h0 : M1 0 0 = 0) : an nums r = b ∧ nx M r = M1 := by
  subst h
  exact ⟨an_k h0, nx_k h0⟩
theorem ab_e {nums : List Nat} {r : Option (Int32 × zMs)} {b : Int32} {M1 : zMs} (h : r = some (b, M1)) (h0 : M1 0 0 = 0) : ab nums r = (if b = 0 then 0 else 1) ∧ nx M r = M1 := by
  subst h
  exact ⟨ab_k h0, nx_k h0⟩
theorem i1n : (1 : Int32) ≠ 0 := by decide
theorem i2n : (2 : Int32) ≠ 0 := by decide
theorem i3n : (3 : Int32) ≠ 0 := by decide
theorem vA_box (h : WM M) (ht : t < nT M) : A_box M (nI t) = M 4 t := an_d (sp_box h ht)
theorem vA_missing (h : WM M) (ht : t < nT M) : A_missing M (nI t) = M 6 t := an_d (sp_missing h ht)
theorem vA_gameAt (h : WM M) (ht : t < nT M) : A_gameAt M (nI t) = M 7 t := an_d (sp_gameAt h ht)
theorem vA_score (h : WM M) (hg : g < nG M) : A_score M (nI g) = M 27 g := an_d (sp_score h hg)
theorem vA_balls (h : WM M) (hg : g < nG M) : A_balls M (nI g) = M 26 g := an_d (sp_ballsLeft h hg)
theorem vA_stack (h : WM M) (hg : g < nG M) : A_stack M (nI g) = tld M g (nD M g) := an_d (sp_stack h hg)
theorem vA_logged (h : WM M) (hg : g < nG M) : A_logged M (nI g) = nI (ents M g).length := an_d (sp_logged h hg)
theorem vA_vanAt (hv : v < 2) : A_vanAt M (nI v) = M 49 v := an_d (sp_vanAt hv)
theorem vA_parts (hv : v < 2) (hk : k < 2) : A_parts M (nI v) (nI k) = M 50 (2 * v + k) := an_d (sp_parts hv hk)
theorem vA_wear (h : WM M) (ht : t < nT M) (hb : b < nB M t) : A_wear M (nI t) (nI b) = M 15 (8 * t + b) := an_d (sp_wear h ht hb)
theorem vA_sticks (h : WM M) (ht : t < nT M) (hb : b < nB M t) : A_sticks M (nI t) (nI b) = if M 16 (8 * t + b) = -1 then 0 else 1 := by
  refine (ab_d (sp_sticks h ht hb)).trans ?_
  by_cases e : M 16 (8 * t + b) = -1
  · rw [if_pos e, if_pos rfl]
  · rw [if_neg e, if_neg i1n]
theorem vA_wanted (h : WM M) (hk : k < 2) : A_wanted M (nI k) = if (0 : Int32) < bdT M (nI k) (nT M) - M 50 k - M 50 (2 + k) then bdT M (nI k) (nT M) - M 50 k - M 50 (2 + k) else 0 := an_d (sp_wanted h hk)
theorem vA_entry (h : WM M) (hg : g < nG M) {k q : Nat} (he : (ents M g)[k]? = some q) : A_entry M (nI g) (nI k) = lN q :=
  (al_d (sp_entryAt h hg he)).trans (nI_l (by have := (ents_mem h hg (List.mem_of_getElem? he)).1; omega))
theorem vA_twin (h : WM M) (hg : g < nG M) : A_twin M (nI g) = if M 26 g = 0 ∧ ents M g ≠ [] then fst (twB M g) 0 (nG M) else -1 := an_d (sp_twin h hg)
theorem rA_box {i : Int32} (h : WM M) (hi : i < 0 ∨ nI (nT M) ≤ i) : A_box M i = (-2000000001) := (an_f (so_box h hi) i1n).trans (by decide)
theorem rA_missing {i : Int32} (h : WM M) (hi : i < 0 ∨ nI (nT M) ≤ i) : A_missing M i = (-2000000001) := (an_f (so_missing h hi) i1n).trans (by decide)
theorem rA_gameAt {i : Int32} (h : WM M) (hi : i < 0 ∨ nI (nT M) ≤ i) : A_gameAt M i = (-2000000001) := (an_f (so_gameAt h hi) i1n).trans (by decide)
theorem rA_score {i : Int32} (h : WM M) (hi : i < 0 ∨ nI (nG M) ≤ i) : A_score M i = (-2000000001) := (an_f (so_score h hi) i1n).trans (by decide)
theorem rA_balls {i : Int32} (h : WM M) (hi : i < 0 ∨ nI (nG M) ≤ i) : A_balls M i = (-2000000001) := (an_f (so_ballsLeft h hi) i1n).trans (by decide)
theorem rA_stack {i : Int32} (h : WM M) (hi : i < 0 ∨ nI (nG M) ≤ i) : A_stack M i = (-2000000001) := (an_f (so_stack h hi) i1n).trans (by decide)
theorem rA_logged {i : Int32} (h : WM M) (hi : i < 0 ∨ nI (nG M) ≤ i) : A_logged M i = (-2000000001) := (an_f (so_logged h hi) i1n).trans (by decide)
theorem rA_twin {i : Int32} (h : WM M) (hi : i < 0 ∨ nI (nG M) ≤ i) : A_twin M i = (-2000000001) := (an_f (so_twin h hi) i1n).trans (by decide)
theorem rA_byLog {i : Int32} (h : WM M) (hi : i < 0 ∨ nI (nG M) ≤ i) : A_byLog M i = (-2000000001) := (an_f (so_scoreByLog h hi) i1n).trans (by decide)
theorem rA_valid {i : Int32} (h : WM M) (hi : i < 0 ∨ nI (nG M) ≤ i) : A_valid M i = (-2000000001) := (an_f (so_valid h hi) i1n).trans (by decide)
theorem rA_entryG {i j : Int32} (h : WM M) (hi : i < 0 ∨ nI (nG M) ≤ i) : A_entry M i j = (-2000000001 : Int64) := al_f (so_entryG h hi) i1n
theorem rA_entryL {k : Nat} (h : WM M) (hg : g < nG M) (hk : k < 2 ^ 31) (hl : (ents M g).length ≤ k) : A_entry M (nI g) (nI k) = (-2000000001 : Int64) := al_f (so_entryL h hg hk hl) i1n
theorem rA_vanAt {i : Int32} (hi : i < 0 ∨ 1 < i) : A_vanAt M i = (-2000000001) := (an_f (so_vanAt hi) i1n).trans (by decide)
theorem rA_parts1 {i j : Int32} (hi : i < 0 ∨ 1 < i) : A_parts M i j = (-2000000001) := (an_f (so_parts1 (isVan_n hi)) i1n).trans (by decide)
theorem rA_parts2 {j : Int32} (hv : v < 2) (hj : ¬ inR j 0 1) : A_parts M (nI v) j = (-2000000002) := (an_f (so_parts2 hv hj) i2n).trans (by decide)
theorem rA_wanted {i : Int32} (hi : ¬ inR i 0 1) : A_wanted M i = (-2000000002) := (an_f (so_wanted hi) i1n).trans (by decide)
theorem rA_wear {i j : Int32} (hi : fX10_isSwitch M i j = some 0) : A_wear M i j = (-2000000001) := (an_f (so_wear hi) i1n).trans (by decide)
theorem rA_sticks {i j : Int32} (hi : fX10_isSwitch M i j = some 0) : A_sticks M i j = (-2000000001) := (ab_f (so_sticks hi) i1n).trans (by decide)
theorem rA_high1 {i p : Int32} (h : WM M) (hi : i < 0 ∨ nI (nT M) ≤ i) : A_high M i p = (-2000000001) := (an_f (so_high1 h hi) i1n).trans (by decide)
theorem rA_high2 {p : Int32} (h : WM M) (ht : t < nT M) (hp : p < 0) : A_high M (nI t) p = (-2000000002) := (an_f (so_high2 h ht hp) i2n).trans (by decide)
theorem rA_way {i : Int32} (hi : i < 0 ∨ 1 < i) : A_way M i = (-2000000001) := (an_f (so_way (isVan_n hi)) i1n).trans (by decide)
theorem rA_plannedV {i j : Int32} (hi : i < 0 ∨ 1 < i) : A_planned M i j = (-2000000001) := (an_f (so_plannedV (isVan_n hi)) i1n).trans (by decide)
theorem rA_plannedN {j : Int32} (hv : v < 2) (hj : j < 0) : A_planned M (nI v) j = (-2000000001) := (an_f (so_plannedN hv hj) i1n).trans (by decide)
theorem rf_tables1 {i j : Int32} (hr : ¬ (inR i 0 100 ∧ inR j 1 9)) : A_tables M i j = (-2000000002) ∧ N_tables M i j = M := ⟨(an_f (so_addTable hr) i1n).trans (by decide), nx_f (so_addTable hr) i1n⟩
theorem rf_tables2 {i j : Int32} (h : WM M) (r1 : inR i 0 100) (r2 : inR j 1 9) (e6 : nT M = 6) : A_tables M i j = (-2000000003) ∧ N_tables M i j = M := ⟨(an_f (so_addTable6 h r1 r2 e6) i2n).trans (by decide), nx_f (so_addTable6 h r1 r2 e6) i2n⟩
theorem rf_bumpers1 {i a2 a3 a4 a5 : Int32} (h : WM M) (hi : i < 0 ∨ nI (nT M) ≤ i) : A_bumpers M i a2 a3 a4 a5 = (-2000000001) ∧ N_bumpers M i a2 a3 a4 a5 = M := ⟨(an_f (so_addBumper1 h hi) i1n).trans (by decide), nx_f (so_addBumper1 h hi) i1n⟩
theorem rf_bumpers2 {a2 a3 a4 a5 : Int32} (h : WM M) (ht : t < nT M) (ha : ¬ arBm a2 a3 a4 a5) : A_bumpers M (nI t) a2 a3 a4 a5 = (-2000000002) ∧ N_bumpers M (nI t) a2 a3 a4 a5 = M := ⟨(an_f (so_addBumper2 h ht ha) i2n).trans (by decide), nx_f (so_addBumper2 h ht ha) i2n⟩
theorem rf_bumpers3 {a2 a3 a4 a5 : Int32} (h : WM M) (ht : t < nT M) (ha : arBm a2 a3 a4 a5) (hf : ¬ M 7 t = -1 ∨ nB M t = 8) : A_bumpers M (nI t) a2 a3 a4 a5 = (-2000000003) ∧ N_bumpers M (nI t) a2 a3 a4 a5 = M := ⟨(an_f (so_addBumper3 h ht ha hf) i3n).trans (by decide), nx_f (so_addBumper3 h ht ha hf) i3n⟩
theorem rf_points1 {i j x : Int32} (hi : fX10_isSwitch M i j = some 0) : A_points M i j x = (-2000000001) ∧ N_points M i j x = M := ⟨(an_f (so_setPoints1 hi) i1n).trans (by decide), nx_f (so_setPoints1 hi) i1n⟩
theorem rf_points3 {x : Int32} (h : WM M) (ht : t < nT M) (hb : b < nB M t) (hr : inR x 0 1000) (hf : ¬ M 7 t = -1) : A_points M (nI t) (nI b) x = (-2000000003) ∧ N_points M (nI t) (nI b) x = M := ⟨(an_f (so_setPoints3 h ht hb hr hf) i3n).trans (by decide), nx_f (so_setPoints3 h ht hb hr hf) i3n⟩
theorem rf_modes1 {a1 a2 a3 a4 a5 : Int32} (h : WM M) (hi : (a1 < 0 ∨ nI (nT M) ≤ a1) ∨ ∃ t, t < nT M ∧ a1 = nI t ∧ ¬ arSm M t a2 a3) : A_modes M a1 a2 a3 a4 a5 = (-2000000001) ∧ N_modes M a1 a2 a3 a4 a5 = M := ⟨(ab_f (so_setMode1 h hi) i1n).trans (by decide), nx_f (so_setMode1 h hi) i1n⟩
theorem rf_modes2 {a2 a3 a4 a5 : Int32} (h : WM M) (ht : t < nT M) (ha : arSm M t a2 a3) (hf : ¬ fiSm a3 a4 a5) : A_modes M (nI t) a2 a3 a4 a5 = (-2000000002) ∧ N_modes M (nI t) a2 a3 a4 a5 = M := ⟨(ab_f (so_setMode2 h ht ha hf) i2n).trans (by decide), nx_f (so_setMode2 h ht ha hf) i2n⟩
theorem rf_modes3 {a2 a3 a4 a5 : Int32} (h : WM M) (ht : t < nT M) (ha : arSm M t a2 a3) (hf : fiSm a3 a4 a5) (hfr : ¬ M 7 t = -1) : A_modes M (nI t) a2 a3 a4 a5 = (-2000000003) ∧ N_modes M (nI t) a2 a3 a4 a5 = M := ⟨(ab_f (so_setMode3 h ht ha hf hfr) i3n).trans (by decide), nx_f (so_setMode3 h ht ha hf hfr) i3n⟩
theorem rf_stick1 {i j : Int32} (hi : fX10_isSwitch M i j = some 0) : A_stick M i j = (-2000000001) ∧ N_stick M i j = M := ⟨(an_f (so_stick1 hi) i1n).trans (by decide), nx_f (so_stick1 hi) i1n⟩
theorem rf_stick2 (h : WM M) (ht : t < nT M) (hb : b < nB M t) (hs : ¬ M 16 (8 * t + b) = -1 ∨ (60 : Int32) ≤ M 22 0) : A_stick M (nI t) (nI b) = (-2000000003) ∧ N_stick M (nI t) (nI b) = M := ⟨(an_f (so_stick2 h ht hb hs) i2n).trans (by decide), nx_f (so_stick2 h ht hb hs) i2n⟩
theorem rf_coin1 {i : Int32} (h : WM M) (hi : i < 0 ∨ nI (nT M) ≤ i) : A_coin M i = (-2000000001) ∧ N_coin M i = M := ⟨(an_f (so_coin1 h hi) i1n).trans (by decide), nx_f (so_coin1 h hi) i1n⟩
theorem rf_coin2 (h : WM M) (ht : t < nT M) (hf : ¬ M 7 t = -1 ∨ nG M = 40) : A_coin M (nI t) = (-2000000003) ∧ N_coin M (nI t) = M := ⟨(an_f (so_coin2 h ht hf) i2n).trans (by decide), nx_f (so_coin2 h ht hf) i2n⟩
theorem rf_shoot1 {i a2 a3 a4 : Int32} (h : WM M) (hi : i < 0 ∨ nI (nT M) ≤ i) : A_shoot M i a2 a3 a4 = (-2000000001) ∧ N_shoot M i a2 a3 a4 = M := ⟨(an_f (so_shoot1 h hi) i1n).trans (by decide), nx_f (so_shoot1 h hi) i1n⟩
theorem rf_shoot2 {a2 a3 a4 : Int32} (h : WM M) (ht : t < nT M) (ha : ¬ arSh a2 a3 a4) : A_shoot M (nI t) a2 a3 a4 = (-2000000002) ∧ N_shoot M (nI t) a2 a3 a4 = M := ⟨(an_f (so_shoot2 h ht ha) i2n).trans (by decide), nx_f (so_shoot2 h ht ha) i2n⟩
theorem rf_shoot3 {a2 a3 a4 : Int32} (h : WM M) (ht : t < nT M) (ha : arSh a2 a3 a4) (e7 : M 7 t = -1) : A_shoot M (nI t) a2 a3 a4 = (-2000000003) ∧ N_shoot M (nI t) a2 a3 a4 = M := ⟨(an_f (so_shoot3 h ht ha e7) i3n).trans (by decide), nx_f (so_shoot3 h ht ha e7) i3n⟩
theorem rf_rob1 {i x : Int32} (h : WM M) (hi : i < 0 ∨ nI (nT M) ≤ i) : A_rob M i x = (-2000000001) ∧ N_rob M i x = M := ⟨(an_f (so_rob1 h hi) i1n).trans (by decide), nx_f (so_rob1 h hi) i1n⟩
theorem rf_rob2 {x : Int32} (h : WM M) (ht : t < nT M) (hr : ¬ inR x 1 100) : A_rob M (nI t) x = (-2000000002) ∧ N_rob M (nI t) x = M := ⟨(an_f (so_rob2 h ht hr) i2n).trans (by decide), nx_f (so_rob2 h ht hr) i2n⟩
theorem rf_rob3 {x : Int32} (h : WM M) (ht : t < nT M) (hr : inR x 1 100) (hb : ¬ x ≤ M 4 t) : A_rob M (nI t) x = (-2000000003) ∧ N_rob M (nI t) x = M := ⟨(an_f (so_rob3 h ht hr hb) i3n).trans (by decide), nx_f (so_rob3 h ht hr hb) i3n⟩
theorem rf_load1 {i j x : Int32} (hi : i < 0 ∨ 1 < i) : A_load M i j x = (-2000000001) ∧ N_load M i j x = M := ⟨(an_f (so_load1 (isVan_n hi)) i1n).trans (by decide), nx_f (so_load1 (isVan_n hi)) i1n⟩
theorem rf_load2 {j x : Int32} (hv : v < 2) (hr : ¬ (inR j 0 1 ∧ inR x 1 20)) : A_load M (nI v) j x = (-2000000002) ∧ N_load M (nI v) j x = M := ⟨(an_f (so_load2 hv hr) i2n).trans (by decide), nx_f (so_load2 hv hr) i2n⟩
theorem rf_load3 {x : Int32} (hv : v < 2) (hk : k < 2) (hx : inR x 1 20) (h20 : (20 : Int32) < M 50 (2 * v + k) + x) : A_load M (nI v) (nI k) x = (-2000000003) ∧ N_load M (nI v) (nI k) x = M := ⟨(an_f (so_load3 hv hk hx h20) i3n).trans (by decide), nx_f (so_load3 hv hk hx h20) i3n⟩
theorem rf_go1 {i : Int32} (hi : i < 0 ∨ 1 < i) : A_go M i = (-2000000001) ∧ N_go M i = M := ⟨(an_f (so_go1 (isVan_n hi)) i1n).trans (by decide), nx_f (so_go1 (isVan_n hi)) i1n⟩
theorem rf_go2 {M1 : zMs} (hv : v < 2) (e10 : fX10_makePlan M (nI v) = some M1) (p7 : qF M M1) (p2 : M1 51 0 = 0) : A_go M (nI v) = (-2000000003) ∧ N_go M (nI v) = M := ⟨(an_f (so_go2 hv e10 p7 p2) i2n).trans (by decide), nx_f (so_go2 hv e10 p7 p2) i2n⟩
end VA
theorem rm_2 {X : Nat} (h : X < 2 ^ 31) : nI X - nI X / 2 * 2 = nI (X % 2) := pk_rem (d := 2) h (by omega) (by omega)
theorem rm_3 {X : Nat} (h : X < 2 ^ 31) : nI X - nI X / 3 * 3 = nI (X % 3) := pk_rem (d := 3) h (by omega) (by omega)
theorem rm_4 {X : Nat} (h : X < 2 ^ 31) : nI X - nI X / 4 * 4 = nI (X % 4) := pk_rem (d := 4) h (by omega) (by omega)
theorem rm_7 {X : Nat} (h : X < 2 ^ 31) : nI X - nI X / 7 * 7 = nI (X % 7) := pk_rem (d := 7) h (by omega) (by omega)
theorem rm_8 {X : Nat} (h : X < 2 ^ 31) : nI X - nI X / 8 * 8 = nI (X % 8) := pk_rem (d := 8) h (by omega) (by omega)
theorem rm_9 {X : Nat} (h : X < 2 ^ 31) : nI X - nI X / 9 * 9 = nI (X % 9) := pk_rem (d := 9) h (by omega) (by omega)
theorem rm_16 {X : Nat} (h : X < 2 ^ 31) : nI X - nI X / 16 * 16 = nI (X % 16) := pk_rem (d := 16) h (by omega) (by omega)
theorem rm_32 {X : Nat} (h : X < 2 ^ 31) : nI X - nI X / 32 * 32 = nI (X % 32) := pk_rem (d := 32) h (by omega) (by omega)
theorem rm_50 {X : Nat} (h : X < 2 ^ 31) : nI X - nI X / 50 * 50 = nI (X % 50) := pk_rem (d := 50) h (by omega) (by omega)
theorem rm_60 {X : Nat} (h : X < 2 ^ 31) : nI X - nI X / 60 * 60 = nI (X % 60) := pk_rem (d := 60) h (by omega) (by omega)
theorem rm_61 {X : Nat} (h : X < 2 ^ 31) : nI X - nI X / 61 * 61 = nI (X % 61) := pk_rem (d := 61) h (by omega) (by omega)
theorem rm_101 {X : Nat} (h : X < 2 ^ 31) : nI X - nI X / 101 * 101 = nI (X % 101) := pk_rem (d := 101) h (by omega) (by omega)
theorem rm_160 {X : Nat} (h : X < 2 ^ 31) : nI X - nI X / 160 * 160 = nI (X % 160) := pk_rem (d := 160) h (by omega) (by omega)
theorem rm_240 {X : Nat} (h : X < 2 ^ 31) : nI X - nI X / 240 * 240 = nI (X % 240) := pk_rem (d := 240) h (by omega) (by omega)
theorem rm_1001 {X : Nat} (h : X < 2 ^ 31) : nI X - nI X / 1001 * 1001 = nI (X % 1001) := pk_rem (d := 1001) h (by omega) (by omega)
theorem rm_5001 {X : Nat} (h : X < 2 ^ 31) : nI X - nI X / 5001 * 5001 = nI (X % 5001) := pk_rem (d := 5001) h (by omega) (by omega)
theorem rm_499 {X : Nat} (h : X < 2 ^ 31) : nI X - nI X / 499 * 499 = nI (X % 499) := pk_rem (d := 499) h (by omega) (by omega)
theorem rm_9973 {X : Nat} (h : X < 2 ^ 31) : nI X - nI X / 9973 * 9973 = nI (X % 9973) := pk_rem (d := 9973) h (by omega) (by omega)
theorem rm_21 {X : Nat} (h : X < 2 ^ 31) : nI X - nI X / 21 * 21 = nI (X % 21) := pk_rem (d := 21) h (by omega) (by omega)
theorem rm_5 {X : Nat} (h : X < 2 ^ 31) : nI X - nI X / 5 * 5 = nI (X % 5) := pk_rem (d := 5) h (by omega) (by omega)
theorem rm_256 {X : Nat} (h : X < 2 ^ 31) : nI X - nI X / 256 * 256 = nI (X % 256) := pk_rem (d := 256) h (by omega) (by omega)
theorem rm_4096 {X : Nat} (h : X < 2 ^ 31) : nI X - nI X / 4096 * 4096 = nI (X % 4096) := pk_rem (d := 4096) h (by omega) (by omega)
theorem dv_2 {X : Nat} (h : X < 2 ^ 31) : nI X / 2 = nI (X / 2) := pk_div (d := 2) h (by omega) (by omega)
theorem dv_3 {X : Nat} (h : X < 2 ^ 31) : nI X / 3 = nI (X / 3) := pk_div (d := 3) h (by omega) (by omega)
theorem dv_7 {X : Nat} (h : X < 2 ^ 31) : nI X / 7 = nI (X / 7) := pk_div (d := 7) h (by omega) (by omega)
theorem dv_8 {X : Nat} (h : X < 2 ^ 31) : nI X / 8 = nI (X / 8) := pk_div (d := 8) h (by omega) (by omega)
theorem dv_16 {X : Nat} (h : X < 2 ^ 31) : nI X / 16 = nI (X / 16) := pk_div (d := 16) h (by omega) (by omega)
theorem dv_32 {X : Nat} (h : X < 2 ^ 31) : nI X / 32 = nI (X / 32) := pk_div (d := 32) h (by omega) (by omega)
theorem dv_64 {X : Nat} (h : X < 2 ^ 31) : nI X / 64 = nI (X / 64) := pk_div (d := 64) h (by omega) (by omega)
theorem dv_101 {X : Nat} (h : X < 2 ^ 31) : nI X / 101 = nI (X / 101) := pk_div (d := 101) h (by omega) (by omega)
theorem dv_256 {X : Nat} (h : X < 2 ^ 31) : nI X / 256 = nI (X / 256) := pk_div (d := 256) h (by omega) (by omega)
theorem dv_1280 {X : Nat} (h : X < 2 ^ 31) : nI X / 1280 = nI (X / 1280) := pk_div (d := 1280) h (by omega) (by omega)
theorem dv_11 {X : Nat} (h : X < 2 ^ 31) : nI X / 11 = nI (X / 11) := pk_div (d := 11) h (by omega) (by omega)
theorem dv_13 {X : Nat} (h : X < 2 ^ 31) : nI X / 13 = nI (X / 13) := pk_div (d := 13) h (by omega) (by omega)
theorem dv_5 {X : Nat} (h : X < 2 ^ 31) : nI X / 5 = nI (X / 5) := pk_div (d := 5) h (by omega) (by omega)
theorem dv_9 {X : Nat} (h : X < 2 ^ 31) : nI X / 9 = nI (X / 9) := pk_div (d := 9) h (by omega) (by omega)
theorem ng_sub {c n : Nat} (hc : c < 2 ^ 29) (hn : n < 2 ^ 29) (h0 : 0 < c) {C : Int32} (hC : C = nI 0 - nI c) : C - nI n < 0 := by
  have h1 : (nI 0 - nI c).toInt = (0 : Nat) - (c : Int) := pk_sub_toInt (by omega) (by omega)
  have h2 : (nI n).toInt = (n : Int) := nI_toInt (by omega)
  rw [Int32.lt_iff_toInt_lt, Int32.toInt_sub, hC, h1, h2, Int.bmod_eq_of_le (by omega) (by omega)]
  have : (0 : Int32).toInt = 0 := by decide
  omega
theorem ng_1 {n : Nat} (hn : n < 2 ^ 29) : (-1 : Int32) - nI n < 0 := ng_sub (c := 1) (by omega) hn (by omega) (by decide)
theorem ng_0 {n : Nat} (hn : n < 2 ^ 29) (h0 : 0 < n) : -nI n < 0 := by
  have := pk_sneg (a := 0) (b := n) (by omega) h0
  rwa [nI_0, Int32.zero_sub] at this
theorem inR_n {n a b : Nat} (h1 : a ≤ n) (h2 : n ≤ b) (hb : b < 2 ^ 31) {A B : Int32} (hA : A = nI a) (hB : B = nI b) : inR (nI n) A B := by
  subst hA; subst hB
  exact ⟨nI_le h1 (by omega), nI_le h2 hb⟩
theorem inR_hi {n b : Nat} (h : b < n) (hn : n < 2 ^ 31) {A B : Int32} (hB : B = nI b) : ¬ inR (nI n) A B := by
  subst hB
  exact fun q => nI_ge h hn q.2
theorem inR_lo {x A B : Int32} (h : x < A) : ¬ inR x A B := fun q => Int32.not_lt.mpr q.1 h
theorem lt0_lt {x : Int32} {a : Nat} (h : x < 0) (ha : a < 2 ^ 31) : x < nI a := by
  have := nI_toInt ha
  rw [Int32.lt_iff_toInt_lt] at h ⊢
  have h0 : (0 : Int32).toInt = 0 := by decide
  omega
