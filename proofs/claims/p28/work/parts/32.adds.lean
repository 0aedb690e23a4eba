section WA
theorem mt_up_id {w : mt_w} {k : Nat} {e : va_E} (h : w k = some e) : mt_up w k e = w := by
  funext b; unfold mt_up
  by_cases hb : b = k
  · subst hb; rw [if_pos rfl, h]
  · rw [if_neg hb]
theorem rr_add {ad a : Nat → Nat} {B c : Nat} (hc : c < 2 ^ 31) (h : ∀ i, i < c → a (B + i) = ad (B + i)) : va_up (mt_rr ad B c) (nI c).toNatClampNeg (some (a (B + c))) = mt_rr a B (c + 1) := by
  rw [nI_clamp hc]
  funext i
  unfold va_up mt_rr
  by_cases h1 : i = c
  · subst h1; rw [if_pos rfl, if_pos (by omega)]
  · rw [if_neg h1]
    by_cases h2 : i < c
    · rw [if_pos h2, if_pos (by omega), h i h2]
    · rw [if_neg h2, if_neg (by omega)]
theorem rr_same {ad a : Nat → Nat} {B c : Nat} (h : ∀ i, i < c → a (B + i) = ad (B + i)) : mt_rr a B c = mt_rr ad B c := by
  funext i; unfold mt_rr
  by_cases hi : i < c
  · rw [if_pos hi, if_pos hi, h i hi]
  · rw [if_neg hi, if_neg hi]
theorem mt_W.ren {g : mt_G} {z : Nat} {w w2 : mt_w} {ad ad2 : Nat → Nat} {H : Heap} (h : mt_W g z w ad H) (σ : Nat → Nat) (h1 : ∀ b e, w2 b = some e → w (σ b) = some e ∧ ad2 b = ad (σ b)) (h2 : ∀ i j, w2 i ≠ none → w2 j ≠ none → σ i = σ j → i = j) : mt_W g z w2 ad2 H := by
  refine ⟨fun k e hk => ?_, fun i j e f hi hj hij => ?_⟩
  · obtain ⟨q1, q2⟩ := h1 k e hk
    rw [q2]; exact h.1 (σ k) e q1
  · obtain ⟨q1, q2⟩ := h1 i e hi
    obtain ⟨r1, r2⟩ := h1 j f hj
    rw [q2, r2] at hij
    exact h2 i j (by rw [hi]; exact fun x => by cases x) (by rw [hj]; exact fun x => by cases x) (h.2 _ _ _ _ q1 r1 hij)
variable {g : mt_G} {ad a : Nat → Nat} {lc mc bc : Nat} {N N1 G G1 : Nat → Nat → Int32} {o : Nat → Int64} {d : mt_D}
theorem mt_aast2 {p : Program} {l : Launch} {e : Env} {R : Room} {s : State} {m : MethodId} {args : Array Value} {below : List Frame} {meth : Method} {c : Code} {H : Heap} {locs : List Loc} {cells slots : Nat} {Q : State → Prop} {cc : ByteArray} {nL pc : Nat} {ls : Array Slot} {rest : List Value} {z : Nat} {w : mt_w} {w0 : Cond} {own : String} {a0 a2 : Nat} (S : CallFix p m c cc nL s args (w0 :: mt_T) own) (hC : mt_C g z s) (hW : mt_W g z w ad H) (hS : va_S (mt_A z) s.heap H locs) (t ci : Nat) {r : vw_C} (ht : (mt_tys g)[t]? = some (g.2 t, .object r.1)) (hc : vwCl[ci]? = some r) {k k2 n : Nat} (h0 : ad k = a0) (h2 : ad k2 = a2) {f : Nat → Option Nat} {vs : List Value} (he : w k = some (.inl (g.2 t, n, .inr (.inr (.inr (.inr f)))))) (hv : w k2 = some (.inr (ci, vs))) {i : Int32} (hin : vp_in i n) (hdg : decode cc pc = .ok (.aastore, 1))
    (kk : ∀ (H1 : Heap) (locs1 : List Loc), mt_W g z (mt_up w k (.inl (g.2 t, n, .inr (.inr (.inr (.inr (va_up f i.toNatClampNeg (some (ad k2)))))))))  ad H1 → va_S (mt_A z) s.heap H1 locs1 → W p l e R s m args below meth c H1 locs1 cells slots Q (F0 m (pc + 1) ls rest)) : W p l e R s m args below meth c H locs cells slots Q (F0 m pc ls (.ref a2 :: .int i :: .ref a0 :: rest)) := by
  subst h0; subst h2; exact mt_aast S hC hW hS t ci ht hc he hv hin hdg kk
/-- what lies at the next free ids: nothing -/
theorem wn_lay {i : Nat} (h : lc < 6) (hi : i = 100 + lc ∨ i = 110 + lc ∨ i = 120 + lc ∨ i = 130 + lc ∨ i = 140 + lc) : mt_wc g ad lc mc bc N G o d i = none := by
  have e1 : mt_arr g lc bc N i = none := by
    unfold mt_arr
    repeat' split
    all_goals first | rfl | (exfalso; omega)
  rw [wc_ob e1]
  unfold mt_obj
  repeat' split
  all_goals first | rfl | (exfalso; omega)
theorem wn_mnt (h : mc < 8) : mt_wc g ad lc mc bc N G o d (150 + mc) = none := by
  have e1 : mt_arr g lc bc N (150 + mc) = none := by
    unfold mt_arr
    repeat' split
    all_goals first | rfl | (exfalso; omega)
  rw [wc_ob e1]
  unfold mt_obj
  repeat' split
  all_goals first | rfl | (exfalso; omega)
/-- what another number of cells leaves as it was -/
theorem wc_more {lc' mc' bc' b : Nat} (h6 : lc' ≤ 6) (h8 : mc' ≤ 8) (hb6 : bc' ≤ 6) (hl : lc ≤ lc' ∧ lc' ≤ lc + 1) (hm : mc ≤ mc' ∧ mc' ≤ mc + 1) (hb : bc ≤ bc' ∧ bc' ≤ bc + 1)
    (n : b ≠ 0 ∧ b ≠ 1 ∧ b ≠ 2 ∧ b ≠ 3) (nl : lc' = lc + 1 → b ≠ 100 + lc ∧ b ≠ 110 + lc ∧ b ≠ 120 + lc ∧ b ≠ 130 + lc ∧ b ≠ 140 + lc) (nm : mc' = mc + 1 → b ≠ 150 + mc) (nb : bc' = bc + 1 → b ≠ 160 + bc ∧ b ≠ 170 + bc)
    (hA : ∀ q, q < 300 → ¬ (lc' = lc + 1 ∧ (q = 100 + lc ∨ q = 110 + lc ∨ q = 120 + lc ∨ q = 130 + lc ∨ q = 140 + lc)) → ¬ (mc' = mc + 1 ∧ q = 150 + mc) → ¬ (bc' = bc + 1 ∧ (q = 160 + bc ∨ q = 170 + bc)) → a q = ad q)
    (hN : ∀ j, N1 b j = N b j) (hN0 : 170 ≤ b → b < 170 + bc → N1 (b - 10) 0 = N (b - 10) 0) (hG : ∀ j, G1 b j = G b j) : mt_wc g a lc' mc' bc' N1 G1 o d b = mt_wc g ad lc mc bc N G o d b := by
  have eN : N1 b = N b := funext hN
  have eG : G1 b = G b := funext hG
  have e1 : mt_arr g lc' bc' N1 b = mt_arr g lc bc N b := by
    unfold mt_arr
    simp only [show (b < 110 + lc') ↔ (b < 110 + lc) from by omega, show (b < 120 + lc') ↔ (b < 120 + lc) from by omega, show (b < 130 + lc') ↔ (b < 130 + lc) from by omega, show (b < 140 + lc') ↔ (b < 140 + lc) from by omega, show (b < 170 + bc') ↔ (b < 170 + bc) from by omega]
    by_cases h9 : 170 ≤ b ∧ b < 170 + bc
    · rw [hN0 h9.1 h9.2]
    · by_cases h7 : 170 ≤ b ∧ b < 176
      · simp only [if_neg (show ¬ b < 170 + bc by omega)]
      · simp only [if_neg h7]
  unfold mt_wc
  rw [e1, eG]
  cases hq : mt_arr g lc bc N b with
  | some c => rfl
  | none =>
    show mt_obj g a lc' mc' bc' N1 o d b = mt_obj g ad lc mc bc N o d b
    unfold mt_obj
    rw [eN]
    by_cases h1 : b < 100
    · simp only [if_pos h1, if_neg n.1, if_neg n.2.1, if_neg n.2.2.1, if_neg n.2.2.2]
    · simp only [if_neg h1]
      by_cases h2 : b < 200
      · simp only [if_pos h2]
        simp only [show (b < 100 + lc') ↔ (b < 100 + lc) from by omega, show (b < 150 + mc') ↔ (b < 150 + mc) from by omega, show (b < 160 + bc') ↔ (b < 160 + bc) from by omega]
        by_cases h3 : b < 100 + lc
        · have h4 : b < 106 := by omega
          simp only [if_pos h4, if_pos h3]
          rw [hA (b + 10) (by omega) (by omega) (by omega) (by omega), hA (b + 20) (by omega) (by omega) (by omega) (by omega), hA (b + 30) (by omega) (by omega) (by omega) (by omega), hA (b + 40) (by omega) (by omega) (by omega) (by omega)]
        · by_cases h4 : b < 106
          · simp only [if_pos h4, if_neg h3]
          · simp only [if_neg h4]
            by_cases h5 : 160 ≤ b ∧ b < 160 + bc
            · rw [hA (b + 10) (by omega) (by omega) (by omega) (by omega)]
            · by_cases h7 : 160 ≤ b ∧ b < 166
              · simp only [if_neg (show ¬ b < 160 + bc by omega)]
              · simp only [if_neg h7]
      · simp only [if_neg h2]
        by_cases h3 : b = 200
        · subst h3
          rw [show N1 200 = N 200 from eN]
          simp only [if_true]
          unfold mt_mo
          rw [hA 201 (by omega) (by omega) (by omega) (by omega), hA 202 (by omega) (by omega) (by omega) (by omega), hA 203 (by omega) (by omega) (by omega) (by omega), hA 205 (by omega) (by omega) (by omega) (by omega), hA 206 (by omega) (by omega) (by omega) (by omega), hA 207 (by omega) (by omega) (by omega) (by omega), hA 208 (by omega) (by omega) (by omega) (by omega), hA 209 (by omega) (by omega) (by omega) (by omega), hA 211 (by omega) (by omega) (by omega) (by omega), hA 213 (by omega) (by omega) (by omega) (by omega), hA 214 (by omega) (by omega) (by omega) (by omega)]
        · simp only [if_neg h3]
theorem tb_ad {lc mc bc : Nat} {n : Nat → Int32} (h : ∀ b, b < 10 → a b = ad b) : mt_tb a lc mc bc n = mt_tb ad lc mc bc n := by
  unfold mt_tb
  rw [h 1 (by omega), h 2 (by omega), h 3 (by omega), h 4 (by omega), h 5 (by omega), h 6 (by omega), h 7 (by omega)]
def mt_g0 (G : Nat → Nat → Int32) (i : Nat) : Nat → Nat → Int32 := fun k j => if k = 110 + i ∨ k = 120 + i ∨ k = 130 + i ∨ k = 140 + i then 0 else G k j
theorem wc_addL (h5 : lc < 6) (h8 : mc ≤ 8) (hb6 : bc ≤ 6) (hA : ∀ b, b ≠ 100 + lc ∧ b ≠ 110 + lc ∧ b ≠ 120 + lc ∧ b ≠ 130 + lc ∧ b ≠ 140 + lc → a b = ad b) :
    mt_up (mt_up (mt_up (mt_up (mt_up (mt_up (mt_up (mt_wc g ad lc mc bc N G o d) (100 + lc) (.inr (3, [.null, .null, .null, .null]))) (100 + lc + 10) (.inl (g.2 0, 341, .inl (fun _ => 0)))) (100 + lc + 20) (.inl (g.2 0, 341, .inl (fun _ => 0)))) (100 + lc + 30) (.inl (g.2 0, 341, .inl (fun _ => 0)))) (100 + lc + 40) (.inl (g.2 1, 341, .inl (fun _ => 0)))) (100 + lc) (.inr (3, [.ref (a (100 + lc + 10)), .ref (a (100 + lc + 20)), .ref (a (100 + lc + 30)), .ref (a (100 + lc + 40))]))) 1 (.inl (g.2 2, 6, .inr (.inr (.inr (.inr (va_up (mt_rr ad 100 lc) (nI lc).toNatClampNeg (some (a (100 + lc))))))))) = mt_up (mt_wc g a (lc + 1) mc bc N (mt_g0 G lc) o d) 0 (.inr (5, mt_tb a lc mc bc (N 0))) := by
  rw [rr_add (by omega) (fun i hi => hA _ (by omega))]
  rw [show 100 + lc + 10 = 110 + lc by omega, show 100 + lc + 20 = 120 + lc by omega, show 100 + lc + 30 = 130 + lc by omega, show 100 + lc + 40 = 140 + lc by omega]
  funext b
  simp only [mt_up]
  by_cases h0 : b = 0
  · subst h0
    rw [if_neg (by decide), if_neg (by omega), if_neg (by omega), if_neg (by omega), if_neg (by omega), if_neg (by omega), if_neg (by omega), if_pos rfl, wc_0, tb_ad (fun b hb => hA b (by omega))]
  · simp only [if_neg h0]
    by_cases h1 : b = 1
    · subst h1; rfl
    · simp only [if_neg h1]
      by_cases h2 : b = 100 + lc
      · subst h2; rw [if_pos rfl, wc_lay (by omega) (by omega)]
      · simp only [if_neg h2]
        by_cases h3 : b = 140 + lc
        · subst h3; rw [if_pos rfl, wc_arr (ar_c (by omega) (by omega))]; unfold mt_g0; simp
        · simp only [if_neg h3]
          by_cases h4 : b = 130 + lc
          · subst h4; rw [if_pos rfl, wc_arr (ar_v (by omega) (by omega))]; unfold mt_g0; simp
          · simp only [if_neg h4]
            by_cases h7 : b = 120 + lc
            · subst h7; rw [if_pos rfl, wc_arr (ar_o (by omega) (by omega))]; unfold mt_g0; simp
            · simp only [if_neg h7]
              by_cases h9 : b = 110 + lc
              · subst h9; rw [if_pos rfl, wc_arr (ar_k (by omega) (by omega))]; unfold mt_g0; simp
              · simp only [if_neg h9]
                by_cases e2 : b = 2
                · subst e2
                  show some (Sum.inl (g.2 3, 8, Sum.inr (Sum.inr (Sum.inr (Sum.inr (mt_rr ad 150 mc)))))) = some (Sum.inl (g.2 3, 8, Sum.inr (Sum.inr (Sum.inr (Sum.inr (mt_rr a 150 mc))))))
                  rw [rr_same (fun i hi => hA _ (by omega))]
                · by_cases e3 : b = 3
                  · subst e3
                    show some (Sum.inl (g.2 4, 6, Sum.inr (Sum.inr (Sum.inr (Sum.inr (mt_rr ad 160 bc)))))) = some (Sum.inl (g.2 4, 6, Sum.inr (Sum.inr (Sum.inr (Sum.inr (mt_rr a 160 bc))))))
                    rw [rr_same (fun i hi => hA _ (by omega))]
                  · refine (wc_more (by omega) h8 hb6 (by omega) (by omega) (by omega) ⟨h0, h1, e2, e3⟩ (fun _ => ⟨h2, h9, h7, h4, h3⟩) (fun _ => by omega) (fun _ => by omega) (fun q _ hq _ _ => hA q (by omega)) (fun _ => rfl) (fun _ _ => rfl) (fun j => ?_)).symm
                    unfold mt_g0; rw [if_neg (by omega)]
theorem wc_cntL : mt_up (mt_up (mt_wc g a (lc + 1) mc bc N G o d) 0 (.inr (5, mt_tb a lc mc bc (N 0)))) 0 (.inr (5, (mt_tb a lc mc bc (N 0)).set 7 (.int (nI (lc + 1))))) = mt_wc g a (lc + 1) mc bc N G o d := by
  rw [mt_up2]; exact mt_up_id rfl
theorem wc_cntM : mt_up (mt_up (mt_wc g a lc (mc + 1) bc N G o d) 0 (.inr (5, mt_tb a lc mc bc (N 0)))) 0 (.inr (5, (mt_tb a lc mc bc (N 0)).set 8 (.int (nI (mc + 1))))) = mt_wc g a lc (mc + 1) bc N G o d := by
  rw [mt_up2]; exact mt_up_id rfl
theorem wc_cntB : mt_up (mt_up (mt_wc g a lc mc (bc + 1) N G o d) 0 (.inr (5, mt_tb a lc mc bc (N 0)))) 0 (.inr (5, (mt_tb a lc mc bc (N 0)).set 9 (.int (nI (bc + 1))))) = mt_wc g a lc mc (bc + 1) N G o d := by
  rw [mt_up2]; exact mt_up_id rfl
def mt_nm (N : Nat → Nat → Int32) (i : Nat) (x y v : Int32) : Nat → Nat → Int32 := fun k j => if k = 150 + i then (if j = 0 then y else if j = 1 then v else if j = 2 then x else if j = 3 then 1 else 0) else N k j
theorem wc_addM {x y v : Int32} (h6 : lc ≤ 6) (h7 : mc < 8) (hb6 : bc ≤ 6) (hA : ∀ b, b ≠ 150 + mc → a b = ad b) :
    mt_up (mt_up (mt_up (mt_wc g ad lc mc bc N G o d) (150 + mc) (.inr (4, [.int 0, .int 0, .int 0, .int 0, .int 0]))) (150 + mc) (.inr (4, [.int y, .int v, .int x, .int 1, .int 0]))) 2 (.inl (g.2 3, 8, .inr (.inr (.inr (.inr (va_up (mt_rr ad 150 mc) (nI mc).toNatClampNeg (some (a (150 + mc))))))))) = mt_up (mt_wc g a lc (mc + 1) bc (mt_nm N mc x y v) G o d) 0 (.inr (5, mt_tb a lc mc bc (mt_nm N mc x y v 0))) := by
  rw [rr_add (by omega) (fun i hi => hA _ (by omega)), mt_up2]
  have e00 : mt_nm N mc x y v 0 = N 0 := by funext j; unfold mt_nm; rw [if_neg (by omega)]
  funext b
  simp only [mt_up]
  by_cases h0 : b = 0
  · subst h0
    rw [if_neg (by decide), if_neg (by omega), if_pos rfl, wc_0, tb_ad (fun b hb => hA b (by omega)), e00]
  · simp only [if_neg h0]
    by_cases h1 : b = 2
    · subst h1; rfl
    · simp only [if_neg h1]
      by_cases h2 : b = 150 + mc
      · subst h2; rw [if_pos rfl, wc_mnt (by omega) (by omega)]; unfold mt_mn mt_nm; simp
      · simp only [if_neg h2]
        by_cases e2 : b = 1
        · subst e2
          show some (Sum.inl (g.2 2, 6, Sum.inr (Sum.inr (Sum.inr (Sum.inr (mt_rr ad 100 lc)))))) = some (Sum.inl (g.2 2, 6, Sum.inr (Sum.inr (Sum.inr (Sum.inr (mt_rr a 100 lc))))))
          rw [rr_same (fun i hi => hA _ (by omega))]
        · by_cases e3 : b = 3
          · subst e3
            show some (Sum.inl (g.2 4, 6, Sum.inr (Sum.inr (Sum.inr (Sum.inr (mt_rr ad 160 bc)))))) = some (Sum.inl (g.2 4, 6, Sum.inr (Sum.inr (Sum.inr (Sum.inr (mt_rr a 160 bc))))))
            rw [rr_same (fun i hi => hA _ (by omega))]
          · refine (wc_more h6 (by omega) hb6 (by omega) (by omega) (by omega) ⟨h0, e2, h1, e3⟩ (fun _ => by omega) (fun _ => h2) (fun _ => by omega) (fun q _ _ hq _ => hA q (by omega)) (fun j => ?_) (fun _ _ => ?_) (fun _ => rfl)).symm
            · unfold mt_nm; rw [if_neg h2]
            · unfold mt_nm; rw [if_neg (by omega)]
def mt_xd (d : mt_D) (x : Int32) (q : Nat) (g : mt_G) (f : Nat → Int32) : mt_D := (d.1, fun k => if k = 302 then some (.inr (2, [.int x, .ref q])) else if k = 312 then some (.inl (g.2 0, c_bn x, .inl f)) else none)
theorem wc_addX {x : Int32} (h6 : lc ≤ 6) (h8 : mc ≤ 8) (hb6 : bc ≤ 6) (hd : ∀ k, d.2 k = none) (hA : ∀ b, b ≠ 302 ∧ b ≠ 312 → a b = ad b) :
    mt_up (mt_up (mt_up (mt_wc g ad lc mc bc N G o d) 302 (.inr (2, [.int 0, .null]))) (302 + 10) (.inl (g.2 0, c_bn x, .inl (fun _ => 0)))) 302 (.inr (2, [.int x, .ref (a (302 + 10))])) = mt_wc g a lc mc bc N G o (mt_xd d x (a 312) g (fun _ => 0)) := by
  have hs : mt_wc g a lc mc bc N G o d = mt_wc g ad lc mc bc N G o d := by
    funext b
    by_cases e0 : b = 0
    · subst e0; rw [wc_0, wc_0, tb_ad (fun b hb => hA b (by omega))]
    · by_cases e1 : b = 1
      · subst e1; rw [wc_1, wc_1, rr_same (fun i hi => hA _ (by omega))]
      · by_cases e2 : b = 2
        · subst e2; rw [wc_2, wc_2, rr_same (fun i hi => hA _ (by omega))]
        · by_cases e3 : b = 3
          · subst e3; rw [wc_3, wc_3, rr_same (fun i hi => hA _ (by omega))]
          · exact wc_more h6 h8 hb6 (by omega) (by omega) (by omega) ⟨e0, e1, e2, e3⟩ (fun _ => by omega) (fun _ => by omega) (fun _ => by omega) (fun q _ _ _ _ => hA q (by omega)) (fun _ => rfl) (fun _ _ => rfl) (fun _ => rfl)
  rw [← hs]
  funext b
  simp only [mt_up]
  by_cases h1 : b = 302
  · subst h1; rfl
  · simp only [if_neg h1]
    by_cases h2 : b = 302 + 10
    · subst h2; rfl
    · simp only [if_neg h2]
      unfold mt_wc
      cases hq : mt_arr g lc bc N b with
      | some c => rfl
      | none =>
        show mt_obj g a lc mc bc N o d b = mt_obj g a lc mc bc N o (mt_xd d x (a 312) g (fun _ => 0)) b
        unfold mt_obj mt_xd
        simp only [if_neg h1, if_neg h2, hd, if_neg (show ¬ b = 312 from h2)]
theorem wc_setx {x : Int32} {q : Nat} {f f' : Nat → Int32} : mt_up (mt_wc g ad lc mc bc N G o (mt_xd d x q g f)) 312 (.inl (g.2 0, c_bn x, .inl f')) = mt_wc g ad lc mc bc N G o (mt_xd d x q g f') := by
  funext b
  unfold mt_up
  by_cases hb : b = 312
  · subst hb; rfl
  · rw [if_neg hb]
    unfold mt_wc mt_obj mt_xd
    simp only [if_neg hb]
theorem c_upk {f : Nat → Int32} {n k : Nat} (hk : k < n) (hn : n < 2 ^ 31) : upd (fun j => if j < k then f j else 0) (nI k).toNatClampNeg (f k) = fun j => if j < k + 1 then f j else 0 := by
  rw [nI_clamp (Nat.lt_trans hk hn)]
  funext j
  unfold upd
  by_cases h : j = k
  · subst h; simp
  · rw [if_neg h]
    show (if j < k then f j else 0) = _
    by_cases h2 : j < k
    · rw [if_pos h2, if_pos (by omega)]
    · rw [if_neg h2, if_neg (by omega)]
def mt_nb (N : Nat → Nat → Int32) (i : Nat) (x : Int32) : Nat → Nat → Int32 := fun k j => if k = 160 + i then (if j = 0 then x else 0) else N k j
def mt_gb (G : Nat → Nat → Int32) (i : Nat) (f : Nat → Int32) : Nat → Nat → Int32 := fun k j => if k = 170 + i then f j else G k j
theorem wc_addB {z : Nat} {H : Heap} {x : Int32} {f : Nat → Int32} (h6 : lc ≤ 6) (h8 : mc ≤ 8) (h7 : bc < 6) (hd : ∀ k, d.2 k = none) (hW : mt_W g z (mt_up (mt_wc g ad lc mc bc N G o (mt_xd d x (ad 312) g f)) 3 (.inl (g.2 4, 6, .inr (.inr (.inr (.inr (va_up (mt_rr ad 160 bc) (nI bc).toNatClampNeg (some (ad 302))))))))) ad H) :
    ∃ a : Nat → Nat, (∀ b, b ≠ 160 + bc ∧ b ≠ 170 + bc → a b = ad b) ∧ mt_W g z (mt_up (mt_wc g a lc mc (bc + 1) (mt_nb N bc x) (mt_gb G bc f) o d) 0 (.inr (5, mt_tb a lc mc bc (mt_nb N bc x 0)))) a H := by
  have hA : ∀ b, b ≠ 160 + bc ∧ b ≠ 170 + bc → (fun b => if b = 160 + bc then ad 302 else if b = 170 + bc then ad 312 else ad b) b = ad b := fun b h => by simp only [if_neg h.1, if_neg h.2]
  refine ⟨fun b => if b = 160 + bc then ad 302 else if b = 170 + bc then ad 312 else ad b, hA, ?_⟩
  have k1 : (fun b => if b = 160 + bc then ad 302 else if b = 170 + bc then ad 312 else ad b) (160 + bc) = ad 302 := if_pos rfl
  have k2 : (fun b => if b = 160 + bc then ad 302 else if b = 170 + bc then ad 312 else ad b) (170 + bc) = ad 312 := by
    show (if 170 + bc = 160 + bc then _ else _) = _
    rw [if_neg (by omega), if_pos rfl]
  generalize (fun b => if b = 160 + bc then ad 302 else if b = 170 + bc then ad 312 else ad b) = a at hA k1 k2 ⊢
  have e0 : mt_nb N bc x 0 = N 0 := by funext j; unfold mt_nb; rw [if_neg (by omega)]
  rw [e0]
  refine hW.ren (fun b => if b = 160 + bc then 302 else if b = 170 + bc then 312 else b) (fun b e he => ?_) (fun i j hi hj hij => ?_)
  · by_cases b0 : b = 0
    · subst b0
      have q : (if 0 = 160 + bc then 302 else if 0 = 170 + bc then 312 else 0) = 0 := by rw [if_neg (by omega), if_neg (by omega)]
      show mt_up _ _ _ (if 0 = 160 + bc then 302 else if 0 = 170 + bc then 312 else 0) = _ ∧ a 0 = ad (if 0 = 160 + bc then 302 else if 0 = 170 + bc then 312 else 0)
      rw [q]
      rw [mt_up_eq] at he
      rw [mt_up_ne (by omega), wc_0]
      refine ⟨?_, hA 0 (by omega)⟩
      rw [← he, tb_ad (fun b hb => hA b (by omega))]
    · rw [mt_up_ne b0] at he
      by_cases b3 : b = 3
      · subst b3
        have q : (if 3 = 160 + bc then 302 else if 3 = 170 + bc then 312 else 3) = 3 := by rw [if_neg (by omega), if_neg (by omega)]
        show mt_up _ _ _ (if 3 = 160 + bc then 302 else if 3 = 170 + bc then 312 else 3) = _ ∧ a 3 = ad (if 3 = 160 + bc then 302 else if 3 = 170 + bc then 312 else 3)
        rw [q, mt_up_eq]
        rw [wc_3] at he
        refine ⟨?_, hA 3 (by omega)⟩
        rw [← he, ← k1, rr_add (by omega) (fun i hi => hA _ (by omega))]
      · by_cases b4 : b = 160 + bc
        · subst b4
          rw [wc_bak (by omega) (by omega)] at he
          show mt_up _ _ _ (if 160 + bc = 160 + bc then 302 else _) = _ ∧ a (160 + bc) = ad (if 160 + bc = 160 + bc then 302 else _)
          rw [if_pos rfl, mt_up_ne (by omega), k1, ← he, k2]
          refine ⟨?_, rfl⟩
          show some (Sum.inr (2, [Value.int x, .ref (ad 312)])) = _
          unfold mt_nb; simp
        · by_cases b5 : b = 170 + bc
          · subst b5
            rw [wc_arr (ar_b (by omega) (by omega))] at he
            show mt_up _ _ _ (if 170 + bc = 160 + bc then 302 else if 170 + bc = 170 + bc then 312 else _) = _ ∧ a (170 + bc) = ad (if 170 + bc = 160 + bc then 302 else if 170 + bc = 170 + bc then 312 else _)
            rw [if_neg (by omega), if_pos rfl, mt_up_ne (by omega), k2, ← he]
            refine ⟨?_, rfl⟩
            show some (Sum.inl (g.2 0, c_bn x, Sum.inl f)) = _
            unfold mt_nb mt_gb; simp
          · have q : (if b = 160 + bc then 302 else if b = 170 + bc then 312 else b) = b := by rw [if_neg b4, if_neg b5]
            show mt_up _ _ _ (if b = 160 + bc then 302 else if b = 170 + bc then 312 else b) = _ ∧ a b = ad (if b = 160 + bc then 302 else if b = 170 + bc then 312 else b)
            rw [q, mt_up_ne b3]
            refine ⟨?_, hA b ⟨b4, b5⟩⟩
            rw [← he]
            by_cases b1 : b = 1
            · subst b1; rw [wc_1, wc_1, rr_same (a := a) (fun i hi => hA _ (by omega))]
            · by_cases b2 : b = 2
              · subst b2; rw [wc_2, wc_2, rr_same (a := a) (fun i hi => hA _ (by omega))]
              · rw [wc_more (lc := lc) (mc := mc) (bc := bc) (N := N) (G := G) (ad := ad) h6 h8 (by omega) (by omega) (by omega) (by omega) ⟨b0, b1, b2, b3⟩ (fun _ => by omega) (fun _ => by omega) (fun _ => ⟨b4, b5⟩) (fun q _ _ _ hq => hA q (by omega)) (fun j => by unfold mt_nb; rw [if_neg b4]) (fun _ _ => by unfold mt_nb; rw [if_neg (by omega)]) (fun j => by unfold mt_gb; rw [if_neg b5])]
                unfold mt_wc
                cases hq : mt_arr g lc bc N b with
                | some c => rfl
                | none =>
                  show mt_obj g ad lc mc bc N o (mt_xd d x (ad 312) g f) b = mt_obj g ad lc mc bc N o d b
                  have hn : b < 302 ∨ (mt_wc g a lc mc (bc + 1) (mt_nb N bc x) (mt_gb G bc f) o d b = none) := by
                    rcases Nat.lt_or_ge b 302 with h | h
                    · exact Or.inl h
                    · right
                      have g1 : mt_arr g lc (bc + 1) (mt_nb N bc x) b = none := by
                        unfold mt_arr
                        rw [if_neg (by omega), if_neg (by omega), if_neg (by omega)]
                      rw [wc_ob g1]
                      unfold mt_obj
                      rw [if_neg (by omega), if_neg (by omega), if_neg (by omega), if_neg (by omega), if_neg (by omega), if_neg (by omega)]
                      exact hd b
                  rcases hn with hn | hn
                  · unfold mt_obj
                    simp only [if_pos hn]
                    rfl
                  · rw [hn] at he; cases he
  · have hz : ∀ i, 302 ≤ i → mt_up (mt_wc g a lc mc (bc + 1) (mt_nb N bc x) (mt_gb G bc f) o d) 0 (.inr (5, mt_tb a lc mc bc (N 0))) i = none := fun i h => by
      rw [mt_up_ne (by omega)]
      have g1 : mt_arr g lc (bc + 1) (mt_nb N bc x) i = none := by
        unfold mt_arr
        rw [if_neg (by omega), if_neg (by omega), if_neg (by omega)]
      rw [wc_ob g1]
      unfold mt_obj
      rw [if_neg (by omega), if_neg (by omega), if_neg (by omega), if_neg (by omega), if_neg (by omega), if_neg (by omega)]
      exact hd i
    have hi2 : i < 302 := Nat.lt_of_not_le fun h => hi (hz i h)
    have hj2 : j < 302 := Nat.lt_of_not_le fun h => hj (hz j h)
    revert hij
    show (if i = 160 + bc then 302 else if i = 170 + bc then 312 else i) = (if j = 160 + bc then 302 else if j = 170 + bc then 312 else j) → _
    repeat' split
    all_goals omega
end WA
def c_X3_addLayer (lc mc bc : Nat) (N G : Nat → Nat → Int32)  : String ⊕ Int32 := if (nI lc) < 0 then (.inl "java/lang/IllegalStateException") else (if (nI lc) < 6 then (.inr (nI lc)) else (.inl "java/lang/IllegalStateException"))
set_option maxRecDepth 100000 in
set_option maxHeartbeats 4000000 in
theorem k_X3_addLayer (l : Launch) (hlt : l.stackTraces = false) (g : mt_G) (z : Nat) (ad : Nat → Nat) (lc mc bc : Nat) (N G : Nat → Nat → Int32) (o : Nat → Int64) (d : mt_D) (h6 : lc ≤ 6) (h8 : mc ≤ 8) (hb6 : bc ≤ 6)   : mt_KE l g z yX3_addLayer cX3_addLayer 2 (some .int) 6 82 5 1368 [.ref (ad (0))] (mt_wc g ad lc mc bc N G o d) ad (xr_i (c_X3_addLayer lc mc bc N G)) (fun a => scase (c_X3_addLayer lc mc bc N G) (fun _ => mt_wc g a lc mc bc N G o d) (fun _ => mt_wc g a (lc + 1) mc bc N (mt_g0 G lc) o d)) (fun a => ∀ b, b ≠ 100 + lc ∧ b ≠ 110 + lc ∧ b ≠ 120 + lc ∧ b ≠ 130 + lc ∧ b ≠ 140 + lc → a b = ad b) := by
  refine mt_ofWE (by decide +kernel) (Nat.le_of_ble_eq_true rfl) ?_
  intro p e s m args below meth c S hr9 hk hnm hout hC hW hS ls hl
  have hr := hr9
  have hx := S.1
  have hb := S.2.1
  have hl : lv_has ls 2 [(0, .ref (ad (0)))] := hl
  refine lv_aload_n hx hb dX3_addLayer_0 rfl (lv_at hl 0 rfl) ?_
  refine mt_get S iw_X3 hC hW wc_0 rfl 7 (by decide) mw_fl_X3_40 rfl rfl dX3_addLayer_1 ?_
  refine lv_if_lt (tgt := 19) hx hb dX3_addLayer_4 (by decide) (fun c_1 => ?_) (fun c_1 => ?_)
  · refine mt_E_of (ad1 := ad) (w1 := mt_wc g ad lc mc bc N G o d) (fun _ _ => rfl) (scase_l (by rw [c_X3_addLayer, if_pos c_1])) ?_
    exact mt_throw S hlt mp_ISE (List.mem_of_getElem? (i := 0) rfl) hC hW hS hl.1 hout hk (congrArg (a₂ := .inl "java/lang/IllegalStateException") xr_i (by rw [c_X3_addLayer, if_pos c_1])) dX3_addLayer_19 dX3_addLayer_22 dX3_addLayer_23 dX3_addLayer_25 dX3_addLayer_28 (Nat.le_of_ble_eq_true rfl) (Nat.le_of_ble_eq_true rfl) ⟨(Nat.le_of_ble_eq_true rfl), (Nat.le_of_ble_eq_true rfl)⟩ (Nat.le_of_ble_eq_true rfl) (Nat.le_of_ble_eq_true rfl)
  · refine lv_aload_n hx hb dX3_addLayer_7 rfl (lv_at hl 0 rfl) ?_
    refine mt_get S iw_X3 hC hW wc_0 rfl 7 (by decide) mw_fl_X3_40 rfl rfl dX3_addLayer_8 ?_
    refine lv_aload_n hx hb dX3_addLayer_11 rfl (lv_at hl 0 rfl) ?_
    refine mt_get S iw_X3 hC hW wc_0 rfl 0 (by decide) mw_fl_X3_11 rfl rfl dX3_addLayer_12 ?_
    refine mt_alen S hC hW 2 rfl wc_1 (v := 6) rfl dX3_addLayer_15 ?_
    refine lv_icmp_lt (tgt := 29) hx hb dX3_addLayer_16 (by decide) (fun c_2 => ?_) (fun c_2 => ?_)
    · refine lv_aload_n hx hb dX3_addLayer_29 rfl (lv_at hl 0 rfl) ?_
      refine mt_get S iw_X3 hC hW wc_0 rfl 7 (by decide) mw_fl_X3_40 rfl rfl dX3_addLayer_30 ?_
      refine lv_istore_n (lv' := [(1, .int (nI lc)), (0, .ref (ad (0)))]) hx hb dX3_addLayer_33 rfl hl (by decide) rfl (fun ls hl => ?_)
      refine lv_aload_n hx hb dX3_addLayer_34 rfl (lv_at hl 1 rfl) ?_
      refine mt_get S iw_X3 hC hW wc_0 rfl 0 (by decide) mw_fl_X3_11 rfl rfl dX3_addLayer_35 ?_
      refine lv_iload_n hx hb dX3_addLayer_38 rfl (lv_at hl 0 rfl) ?_
      have h5 : lc < 6 := (nI_ltI (by omega) (by decide)).mp c_2
      refine mt_new S iw_X1 tyX1 tyX1_ok hC hW hS mw_cl_X3_9 mw_ii_X1 mw_in_X1 (ci := 3) rfl (100 + lc) (wn_lay h5 (Or.inl rfl)) (fs := [.null, .null, .null, .null]) (fun j hj => by match j, hj with | 0, _ => rfl | 1, _ => rfl | 2, _ => rfl | 3, _ => rfl) (Nat.le_of_ble_eq_true rfl) (Nat.le_of_ble_eq_true rfl) dX3_addLayer_39 (fun q H hW hS => ?_)
      refine lv_dup hx hb dX3_addLayer_42 rfl ?_
      refine mt_cI (As := []) (rest := [.ref q, .int (nI lc), .ref (ad 1)]) S pI_X1 mw_ml_X3_51 (k_X1_init l g z _ _ (100 + lc) q mt_ua_eq mt_up_eq ((mt_up_ne (by omega)).trans (wn_lay h5 (by omega))) ((mt_up_ne (by omega)).trans (wn_lay h5 (by omega))) ((mt_up_ne (by omega)).trans (wn_lay h5 (by omega))) ((mt_up_ne (by omega)).trans (wn_lay h5 (by omega)))) hC hW hS rfl hl.1 rfl (Nat.le_of_ble_eq_true rfl) dX3_addLayer_43 ⟨(Nat.le_of_ble_eq_true rfl), (Nat.le_of_ble_eq_true rfl)⟩ ⟨(Nat.le_of_ble_eq_true rfl), (Nat.le_of_ble_eq_true rfl)⟩ (fun H locs a1 hCC hW hS => ?_)
      have eq : a1 (100 + lc) = q := (hCC _ (by omega)).trans mt_ua_eq
      have hA : ∀ b, b ≠ 100 + lc ∧ b ≠ 110 + lc ∧ b ≠ 120 + lc ∧ b ≠ 130 + lc ∧ b ≠ 140 + lc → a1 b = ad b := fun b h => (hCC b (by omega)).trans (mt_ua_ne h.1)
      have e0 : a1 0 = ad 0 := hA 0 (by omega)
      refine mt_aast2 S hC hW hS 2 3 (r := (RX1, TX1, 4)) rfl rfl (k := 1) (k2 := 100 + lc) (f := mt_rr ad 100 lc) (hA 1 (by omega)) eq ?_ mt_up_eq (vp_in_nI h5 (by decide)) dX3_addLayer_46 (fun H locs hW hS => ?_)
      · rw [mt_up_ne (by omega), mt_up_ne (by omega), mt_up_ne (by omega), mt_up_ne (by omega), mt_up_ne (by omega), mt_up_ne (by omega)]; exact wc_1
      have hW := hW.to (wc_addL h5 h8 hb6 hA)
      rw [← e0] at hl
      refine lv_aload_n hx hb dX3_addLayer_47 rfl (lv_at hl 1 rfl) ?_
      refine lv_dup hx hb dX3_addLayer_48 rfl ?_
      refine mt_get S iw_X3 hC hW mt_up_eq rfl 7 (by decide) mw_fl_X3_40 rfl rfl dX3_addLayer_49 ?_
      refine lv_iconst (v := 1) hx hb dX3_addLayer_52 (by decide) ?_
      refine lv_iadd hx hb dX3_addLayer_53 ?_
      refine mt_te (y := nI (lc + 1)) (nI_1 _) ?_
      refine mt_put S iw_X3 tyX3 tyX3_ok nmX3 hC hW hS mt_up_eq rfl 7 (by decide) mw_fl_X3_40 rfl rfl rfl rfl (Nat.le_of_ble_eq_true rfl) dX3_addLayer_54 (fun H locs hW hS => ?_)
      have hW := hW.to wc_cntL
      refine lv_iload_n hx hb dX3_addLayer_57 rfl (lv_at hl 0 rfl) ?_
      have hE : c_X3_addLayer lc mc bc N G = .inr (nI lc) := (by rw [c_X3_addLayer, if_neg c_1, if_pos c_2])
      exact mt_riE (ad1 := a1) S hr hk hA (hW.to (by rw [hE]; rfl)) hS (congrArg (a₂ := .inr (nI lc)) xr_i hE) (Nat.le_of_ble_eq_true rfl) (Nat.le_of_ble_eq_true rfl) dX3_addLayer_58
    · refine mt_E_of (ad1 := ad) (w1 := mt_wc g ad lc mc bc N G o d) (fun _ _ => rfl) (scase_l (by rw [c_X3_addLayer, if_neg c_1, if_neg c_2])) ?_
      exact mt_throw S hlt mp_ISE (List.mem_of_getElem? (i := 0) rfl) hC hW hS hl.1 hout hk (congrArg (a₂ := .inl "java/lang/IllegalStateException") xr_i (by rw [c_X3_addLayer, if_neg c_1, if_neg c_2])) dX3_addLayer_19 dX3_addLayer_22 dX3_addLayer_23 dX3_addLayer_25 dX3_addLayer_28 (Nat.le_of_ble_eq_true rfl) (Nat.le_of_ble_eq_true rfl) ⟨(Nat.le_of_ble_eq_true rfl), (Nat.le_of_ble_eq_true rfl)⟩ (Nat.le_of_ble_eq_true rfl) (Nat.le_of_ble_eq_true rfl)
def c_X3_mount (lc mc bc : Nat) (N G : Nat → Nat → Int32) (x : Int32) (y : Int32) (v : Int32) : String ⊕ Int32 := if v = (-1) then (if (c_X3_placeOf x) = (-1) then (.inl "java/lang/IllegalArgumentException") else (ocase (c_X3_layerAt lc mc bc N G y) (.inl "java/lang/IndexOutOfBoundsException") (fun i_5 => if (c_X3_isUpperOfSome lc mc bc N G y) = 0 then (if (nI mc) < 0 then (.inl "java/lang/IllegalStateException") else (if (nI mc) < 8 then (.inr (nI mc)) else (.inl "java/lang/IllegalStateException"))) else (.inl "java/lang/UnsupportedOperationException")))) else (if (c_X3_placeOf x) = (-1) then (.inl "java/lang/IllegalArgumentException") else (if y = v then (.inl "java/lang/IllegalArgumentException") else (ocase (c_X3_layerAt lc mc bc N G y) (.inl "java/lang/IndexOutOfBoundsException") (fun i_15 => ocase (c_X3_layerAt lc mc bc N G v) (.inl "java/lang/IndexOutOfBoundsException") (fun i_18 => if (c_X3_isUpperOfSome lc mc bc N G y) = 0 then (if (c_X3_isInSome lc mc bc N G v) = 0 then (if (nI mc) < 0 then (.inl "java/lang/IllegalStateException") else (if (nI mc) < 8 then (.inr (nI mc)) else (.inl "java/lang/IllegalStateException"))) else (.inl "java/lang/UnsupportedOperationException")) else (.inl "java/lang/UnsupportedOperationException"))))))
set_option maxRecDepth 100000 in
set_option maxHeartbeats 4000000 in
theorem k_X3_mount (l : Launch) (hlt : l.stackTraces = false) (g : mt_G) (z : Nat) (ad : Nat → Nat) (lc mc bc : Nat) (N G : Nat → Nat → Int32) (o : Nat → Int64) (d : mt_D) (h6 : lc ≤ 6) (h8 : mc ≤ 8) (hb6 : bc ≤ 6) (x : Int32) (y : Int32) (v : Int32)  : mt_KE l g z yX3_mount cX3_mount 6 (some .int) 6 82 1 6 [.ref (ad (0)), .int x, .int y, .int v] (mt_wc g ad lc mc bc N G o d) ad (xr_i (c_X3_mount lc mc bc N G x y v)) (fun a => scase (c_X3_mount lc mc bc N G x y v) (fun _ => mt_wc g a lc mc bc N G o d) (fun _ => mt_wc g a lc (mc + 1) bc (mt_nm N mc x y v) (c_X3_serveAgain_G lc (mc + 1) bc (mt_nm N mc x y v) G) o d)) (fun a => ∀ b, b ≠ 150 + mc → a b = ad b) := by
  refine mt_ofWE (by decide +kernel) (Nat.le_of_ble_eq_true rfl) ?_
  intro p e s m args below meth c S hr9 hk hnm hout hC hW hS ls hl
  have hr := hr9
  have hx := S.1
  have hb := S.2.1
  have hl : lv_has ls 6 [(0, .ref (ad (0))), (1, .int (x)), (2, .int (y)), (3, .int (v))] := hl
  refine lv_iload_n hx hb dX3_mount_0 rfl (lv_at hl 3 rfl) ?_
  refine lv_iconst (v := -1) hx hb dX3_mount_1 (by decide) ?_
  refine lv_icmp_eq (tgt := 9) hx hb dX3_mount_2 (by decide) (fun c_1 => ?_) (fun c_1 => ?_)
  · refine lv_iconst (v := 0) hx hb dX3_mount_9 (by decide) ?_
    refine lv_istore (lv' := [(4, .int (0)), (0, .ref (ad (0))), (1, .int (x)), (2, .int (y)), (3, .int (v))]) hx hb dX3_mount_10 hl (by decide) rfl (fun ls hl => ?_)
    refine lv_iload_n hx hb dX3_mount_12 rfl (lv_at hl 2 rfl) ?_
    refine mt_cS1 (As := [.int (x)]) (rest := []) S ps_X3_placeOf mw_ml_X3_52 (k_X3_placeOf l hlt g z ad lc mc bc N G o d h6 h8 hb6 x) hC hW hS rfl hl.1 rfl (Nat.le_of_ble_eq_true rfl) dX3_mount_13 ⟨(Nat.le_of_ble_eq_true rfl), (Nat.le_of_ble_eq_true rfl)⟩ ⟨(Nat.le_of_ble_eq_true rfl), (Nat.le_of_ble_eq_true rfl)⟩ rfl (fun H locs hW hS => ?_)
    refine lv_iconst (v := -1) hx hb dX3_mount_16 (by decide) ?_
    refine lv_icmp_eq (tgt := 30) hx hb dX3_mount_17 (by decide) (fun c_2 => ?_) (fun c_2 => ?_)
    · refine mt_E_of (ad1 := ad) (w1 := mt_wc g ad lc mc bc N G o d) (fun _ _ => rfl) (scase_l (by rw [c_X3_mount, if_pos c_1, if_pos c_2])) ?_
      exact mt_throw S hlt mp_IAE (List.mem_of_getElem? (i := 1) rfl) hC hW hS hl.1 hout hk (congrArg (a₂ := .inl "java/lang/IllegalArgumentException") xr_i (by rw [c_X3_mount, if_pos c_1, if_pos c_2])) dX3_mount_30 dX3_mount_33 dX3_mount_34 dX3_mount_36 dX3_mount_39 (Nat.le_of_ble_eq_true rfl) (Nat.le_of_ble_eq_true rfl) ⟨(Nat.le_of_ble_eq_true rfl), (Nat.le_of_ble_eq_true rfl)⟩ (Nat.le_of_ble_eq_true rfl) (Nat.le_of_ble_eq_true rfl)
    · refine lv_iload hx hb dX3_mount_20 (lv_at hl 0 rfl) ?_
      refine lv_if_eq (tgt := 40) hx hb dX3_mount_22 (by decide) (fun c_3 => ?_) (fun c_3 => absurd (by decide) c_3)
      refine lv_aload_n hx hb dX3_mount_40 rfl (lv_at hl 1 rfl) ?_
      refine lv_iload_n hx hb dX3_mount_41 rfl (lv_at hl 3 rfl) ?_
      rcases hq_4 : (c_X3_layerAt lc mc bc N G y) with _ | i_5
      · refine mt_cV1 (v := .null) (As := [.int (y)]) (rest := []) S pv_X3_layerAt mw_ml_X3_61 (k_X3_layerAt l hlt g z ad lc mc bc N G o d h6 h8 hb6 y) hC hW hS wc_0 rfl rfl rfl hl.1 rfl (Nat.le_of_ble_eq_true rfl) dX3_mount_42 ⟨(Nat.le_of_ble_eq_true rfl), (Nat.le_of_ble_eq_true rfl)⟩ ⟨(Nat.le_of_ble_eq_true rfl), (Nat.le_of_ble_eq_true rfl)⟩ (congrArg (a₂ := none) (xr_a ad 100) hq_4) (fun H locs hW hS => ?_)
        refine lv_ifnullN (tgt := 61) hx hb dX3_mount_45 (by decide) ?_
        refine mt_E_of (ad1 := ad) (w1 := mt_wc g ad lc mc bc N G o d) (fun _ _ => rfl) (scase_l (by rw [c_X3_mount, if_pos c_1, if_neg c_2, ocase_n hq_4])) ?_
        exact mt_throw S hlt mp_IOO (List.mem_of_getElem? (i := 2) rfl) hC hW hS hl.1 hout hk (congrArg (a₂ := .inl "java/lang/IndexOutOfBoundsException") xr_i (by rw [c_X3_mount, if_pos c_1, if_neg c_2, ocase_n hq_4])) dX3_mount_61 dX3_mount_64 dX3_mount_65 dX3_mount_67 dX3_mount_70 (Nat.le_of_ble_eq_true rfl) (Nat.le_of_ble_eq_true rfl) ⟨(Nat.le_of_ble_eq_true rfl), (Nat.le_of_ble_eq_true rfl)⟩ (Nat.le_of_ble_eq_true rfl) (Nat.le_of_ble_eq_true rfl)
      · refine mt_cV1 (v := .ref (ad (100 + i_5))) (As := [.int (y)]) (rest := []) S pv_X3_layerAt mw_ml_X3_61 (k_X3_layerAt l hlt g z ad lc mc bc N G o d h6 h8 hb6 y) hC hW hS wc_0 rfl rfl rfl hl.1 rfl (Nat.le_of_ble_eq_true rfl) dX3_mount_42 ⟨(Nat.le_of_ble_eq_true rfl), (Nat.le_of_ble_eq_true rfl)⟩ ⟨(Nat.le_of_ble_eq_true rfl), (Nat.le_of_ble_eq_true rfl)⟩ (congrArg (a₂ := some i_5) (xr_a ad 100) hq_4) (fun H locs hW hS => ?_)
        have hi_i_5 := c_layerAt_lt hq_4
        refine lv_ifnull hx hb dX3_mount_45 ?_
        refine lv_iload hx hb dX3_mount_48 (lv_at hl 0 rfl) ?_
        refine lv_if_eq (tgt := 71) hx hb dX3_mount_50 (by decide) (fun c_6 => ?_) (fun c_6 => absurd (by decide) c_6)
        refine lv_aload_n hx hb dX3_mount_71 rfl (lv_at hl 1 rfl) ?_
        refine lv_iload_n hx hb dX3_mount_72 rfl (lv_at hl 3 rfl) ?_
        refine mt_cV1 (As := [.int (y)]) (rest := []) S pv_X3_isUpperOfSome mw_ml_X3_70 (k_X3_isUpperOfSome l hlt g z ad lc mc bc N G o d h6 h8 hb6 y) hC hW hS wc_0 rfl rfl rfl hl.1 rfl (Nat.le_of_ble_eq_true rfl) dX3_mount_73 ⟨(Nat.le_of_ble_eq_true rfl), (Nat.le_of_ble_eq_true rfl)⟩ ⟨(Nat.le_of_ble_eq_true rfl), (Nat.le_of_ble_eq_true rfl)⟩ rfl (fun H locs hW hS => ?_)
        refine lv_if_ne (tgt := 92) hx hb dX3_mount_76 (by decide) (fun c_7 => ?_) (fun c_7 => ?_)
        · refine mt_E_of (ad1 := ad) (w1 := mt_wc g ad lc mc bc N G o d) (fun _ _ => rfl) (scase_l (by rw [c_X3_mount, if_pos c_1, if_neg c_2, ocase_s hq_4, if_neg c_7])) ?_
          exact mt_throw S hlt mp_UOE (List.mem_of_getElem? (i := 3) rfl) hC hW hS hl.1 hout hk (congrArg (a₂ := .inl "java/lang/UnsupportedOperationException") xr_i (by rw [c_X3_mount, if_pos c_1, if_neg c_2, ocase_s hq_4, if_neg c_7])) dX3_mount_92 dX3_mount_95 dX3_mount_96 dX3_mount_98 dX3_mount_101 (Nat.le_of_ble_eq_true rfl) (Nat.le_of_ble_eq_true rfl) ⟨(Nat.le_of_ble_eq_true rfl), (Nat.le_of_ble_eq_true rfl)⟩ (Nat.le_of_ble_eq_true rfl) (Nat.le_of_ble_eq_true rfl)
        · refine lv_iload hx hb dX3_mount_79 (lv_at hl 0 rfl) ?_
          refine lv_if_eq (tgt := 102) hx hb dX3_mount_81 (by decide) (fun c_8 => ?_) (fun c_8 => absurd (by decide) c_8)
          refine lv_aload_n hx hb dX3_mount_102 rfl (lv_at hl 1 rfl) ?_
          refine mt_get S iw_X3 hC hW wc_0 rfl 8 (by decide) mw_fl_X3_82 rfl rfl dX3_mount_103 ?_
          refine lv_if_lt (tgt := 121) hx hb dX3_mount_106 (by decide) (fun c_9 => ?_) (fun c_9 => ?_)
          · refine mt_E_of (ad1 := ad) (w1 := mt_wc g ad lc mc bc N G o d) (fun _ _ => rfl) (scase_l (by rw [c_X3_mount, if_pos c_1, if_neg c_2, ocase_s hq_4, if_pos c_7, if_pos c_9])) ?_
            exact mt_throw S hlt mp_ISE (List.mem_of_getElem? (i := 4) rfl) hC hW hS hl.1 hout hk (congrArg (a₂ := .inl "java/lang/IllegalStateException") xr_i (by rw [c_X3_mount, if_pos c_1, if_neg c_2, ocase_s hq_4, if_pos c_7, if_pos c_9])) dX3_mount_121 dX3_mount_124 dX3_mount_125 dX3_mount_127 dX3_mount_130 (Nat.le_of_ble_eq_true rfl) (Nat.le_of_ble_eq_true rfl) ⟨(Nat.le_of_ble_eq_true rfl), (Nat.le_of_ble_eq_true rfl)⟩ (Nat.le_of_ble_eq_true rfl) (Nat.le_of_ble_eq_true rfl)
          · refine lv_aload_n hx hb dX3_mount_109 rfl (lv_at hl 1 rfl) ?_
            refine mt_get S iw_X3 hC hW wc_0 rfl 8 (by decide) mw_fl_X3_82 rfl rfl dX3_mount_110 ?_
            refine lv_aload_n hx hb dX3_mount_113 rfl (lv_at hl 1 rfl) ?_
            refine mt_get S iw_X3 hC hW wc_0 rfl 1 (by decide) mw_fl_X3_17 rfl rfl dX3_mount_114 ?_
            refine mt_alen S hC hW 3 rfl wc_2 (v := 8) rfl dX3_mount_117 ?_
            refine lv_icmp_lt (tgt := 131) hx hb dX3_mount_118 (by decide) (fun c_10 => ?_) (fun c_10 => ?_)
            · refine lv_aload_n hx hb dX3_mount_131 rfl (lv_at hl 1 rfl) ?_
              refine mt_get S iw_X3 hC hW wc_0 rfl 8 (by decide) mw_fl_X3_82 rfl rfl dX3_mount_132 ?_
              refine lv_istore (lv' := [(5, .int (nI mc)), (4, .int (0)), (0, .ref (ad (0))), (1, .int (x)), (2, .int (y)), (3, .int (v))]) hx hb dX3_mount_135 hl (by decide) rfl (fun ls hl => ?_)
              refine lv_aload_n hx hb dX3_mount_137 rfl (lv_at hl 2 rfl) ?_
              refine mt_get S iw_X3 hC hW wc_0 rfl 1 (by decide) mw_fl_X3_17 rfl rfl dX3_mount_138 ?_
              refine lv_iload hx hb dX3_mount_141 (lv_at hl 0 rfl) ?_
              have h7 : mc < 8 := (nI_ltI (by omega) (by decide)).mp c_10
              refine mt_new S iw_X2 tyX2 tyX2_ok hC hW hS mw_cl_X3_15 mw_ii_X2 mw_in_X2 (ci := 4) rfl (150 + mc) (wn_mnt h7) (fs := [.int 0, .int 0, .int 0, .int 0, .int 0]) (fun j hj => by match j, hj with | 0, _ => rfl | 1, _ => rfl | 2, _ => rfl | 3, _ => rfl | 4, _ => rfl) (Nat.le_of_ble_eq_true rfl) (Nat.le_of_ble_eq_true rfl) dX3_mount_143 (fun q H hW hS => ?_)
              refine lv_dup hx hb dX3_mount_146 rfl ?_
              refine lv_iload_n hx hb dX3_mount_147 rfl (lv_at hl 3 rfl) ?_
              refine lv_iload_n hx hb dX3_mount_148 rfl (lv_at hl 4 rfl) ?_
              refine lv_iload_n hx hb dX3_mount_149 rfl (lv_at hl 5 rfl) ?_
              refine mt_cI (As := [.int x, .int y, .int v]) (rest := [.ref q, .int (nI mc), .ref (ad 2)]) S pI_X2 mw_ml_X3_87 (k_X2_init l g z _ _ (150 + mc) q x y v mt_ua_eq mt_up_eq) hC hW hS rfl hl.1 rfl (Nat.le_of_ble_eq_true rfl) dX3_mount_150 ⟨(Nat.le_of_ble_eq_true rfl), (Nat.le_of_ble_eq_true rfl)⟩ ⟨(Nat.le_of_ble_eq_true rfl), (Nat.le_of_ble_eq_true rfl)⟩ (fun H locs a1 hCC hW hS => ?_)
              have eq : a1 (150 + mc) = q := by rw [hCC]; exact mt_ua_eq
              have hA : ∀ b, b ≠ 150 + mc → a1 b = ad b := fun b h => by rw [hCC]; exact mt_ua_ne h
              have e0 : a1 0 = ad 0 := hA 0 (by omega)
              refine mt_aast2 S hC hW hS 3 4 (r := (RX2, TX2, 5)) rfl rfl (k := 2) (k2 := 150 + mc) (f := mt_rr ad 150 mc) (hA 2 (by omega)) eq ?_ mt_up_eq (vp_in_nI h7 (by decide)) dX3_mount_153 (fun H locs hW hS => ?_)
              · rw [mt_up_ne (by omega), mt_up_ne (by omega)]; exact wc_2
              have hW := hW.to (wc_addM h6 h7 hb6 hA)
              have hl : lv_has ls 6 [(5, .int (nI mc)), (4, .int (0)), (0, .ref (a1 0)), (1, .int (x)), (2, .int (y)), (3, .int (v))] := by rw [e0]; exact hl
              refine lv_aload_n hx hb dX3_mount_154 rfl (lv_at hl 2 rfl) ?_
              refine lv_dup hx hb dX3_mount_155 rfl ?_
              refine mt_get S iw_X3 hC hW mt_up_eq rfl 8 (by decide) mw_fl_X3_82 rfl rfl dX3_mount_156 ?_
              refine lv_iconst (v := 1) hx hb dX3_mount_159 (by decide) ?_
              refine lv_iadd hx hb dX3_mount_160 ?_
              refine mt_te (y := nI (mc + 1)) (nI_1 _) ?_
              refine mt_put S iw_X3 tyX3 tyX3_ok nmX3 hC hW hS mt_up_eq rfl 8 (by decide) mw_fl_X3_82 rfl rfl rfl rfl (Nat.le_of_ble_eq_true rfl) dX3_mount_161 (fun H locs hW hS => ?_)
              have hW := hW.to wc_cntM
              refine lv_aload_n hx hb dX3_mount_164 rfl (lv_at hl 2 rfl) ?_
              refine mt_cVv (As := []) (rest := []) S pv_X3_serveAgain mw_ml_X3_90 (k_X3_serveAgain l hlt g z a1 lc (mc + 1) bc (mt_nm N mc x y v) G o d h6 (by omega) hb6) hC hW hS wc_0 rfl rfl rfl hl.1 rfl (Nat.le_of_ble_eq_true rfl) dX3_mount_165 ⟨(Nat.le_of_ble_eq_true rfl), (Nat.le_of_ble_eq_true rfl)⟩ ⟨(Nat.le_of_ble_eq_true rfl), (Nat.le_of_ble_eq_true rfl)⟩ rfl (fun H locs hW hS => ?_)
              refine lv_iload hx hb dX3_mount_168 (lv_at hl 0 rfl) ?_
              have hE : c_X3_mount lc mc bc N G x y v = .inr (nI mc) := (by rw [c_X3_mount, if_pos c_1, if_neg c_2, ocase_s hq_4, if_pos c_7, if_neg c_9, if_pos c_10])
              exact mt_riE (ad1 := a1) S hr hk hA (hW.to (by rw [hE]; rfl)) hS (congrArg (a₂ := .inr (nI mc)) xr_i hE) (Nat.le_of_ble_eq_true rfl) (Nat.le_of_ble_eq_true rfl) dX3_mount_170
            · refine mt_E_of (ad1 := ad) (w1 := mt_wc g ad lc mc bc N G o d) (fun _ _ => rfl) (scase_l (by rw [c_X3_mount, if_pos c_1, if_neg c_2, ocase_s hq_4, if_pos c_7, if_neg c_9, if_neg c_10])) ?_
              exact mt_throw S hlt mp_ISE (List.mem_of_getElem? (i := 4) rfl) hC hW hS hl.1 hout hk (congrArg (a₂ := .inl "java/lang/IllegalStateException") xr_i (by rw [c_X3_mount, if_pos c_1, if_neg c_2, ocase_s hq_4, if_pos c_7, if_neg c_9, if_neg c_10])) dX3_mount_121 dX3_mount_124 dX3_mount_125 dX3_mount_127 dX3_mount_130 (Nat.le_of_ble_eq_true rfl) (Nat.le_of_ble_eq_true rfl) ⟨(Nat.le_of_ble_eq_true rfl), (Nat.le_of_ble_eq_true rfl)⟩ (Nat.le_of_ble_eq_true rfl) (Nat.le_of_ble_eq_true rfl)
  · refine lv_iconst (v := 1) hx hb dX3_mount_5 (by decide) ?_
    refine lv_goto (tgt := 10) hx hb dX3_mount_6 (by decide) ?_
    refine lv_istore (lv' := [(4, .int (1)), (0, .ref (ad (0))), (1, .int (x)), (2, .int (y)), (3, .int (v))]) hx hb dX3_mount_10 hl (by decide) rfl (fun ls hl => ?_)
    refine lv_iload_n hx hb dX3_mount_12 rfl (lv_at hl 2 rfl) ?_
    refine mt_cS1 (As := [.int (x)]) (rest := []) S ps_X3_placeOf mw_ml_X3_52 (k_X3_placeOf l hlt g z ad lc mc bc N G o d h6 h8 hb6 x) hC hW hS rfl hl.1 rfl (Nat.le_of_ble_eq_true rfl) dX3_mount_13 ⟨(Nat.le_of_ble_eq_true rfl), (Nat.le_of_ble_eq_true rfl)⟩ ⟨(Nat.le_of_ble_eq_true rfl), (Nat.le_of_ble_eq_true rfl)⟩ rfl (fun H locs hW hS => ?_)
    refine lv_iconst (v := -1) hx hb dX3_mount_16 (by decide) ?_
    refine lv_icmp_eq (tgt := 30) hx hb dX3_mount_17 (by decide) (fun c_11 => ?_) (fun c_11 => ?_)
    · refine mt_E_of (ad1 := ad) (w1 := mt_wc g ad lc mc bc N G o d) (fun _ _ => rfl) (scase_l (by rw [c_X3_mount, if_neg c_1, if_pos c_11])) ?_
      exact mt_throw S hlt mp_IAE (List.mem_of_getElem? (i := 1) rfl) hC hW hS hl.1 hout hk (congrArg (a₂ := .inl "java/lang/IllegalArgumentException") xr_i (by rw [c_X3_mount, if_neg c_1, if_pos c_11])) dX3_mount_30 dX3_mount_33 dX3_mount_34 dX3_mount_36 dX3_mount_39 (Nat.le_of_ble_eq_true rfl) (Nat.le_of_ble_eq_true rfl) ⟨(Nat.le_of_ble_eq_true rfl), (Nat.le_of_ble_eq_true rfl)⟩ (Nat.le_of_ble_eq_true rfl) (Nat.le_of_ble_eq_true rfl)
    · refine lv_iload hx hb dX3_mount_20 (lv_at hl 0 rfl) ?_
      refine lv_if_eq (tgt := 40) hx hb dX3_mount_22 (by decide) (fun c_12 => absurd c_12 (by decide)) (fun c_12 => ?_)
      refine lv_iload_n hx hb dX3_mount_25 rfl (lv_at hl 3 rfl) ?_
      refine lv_iload_n hx hb dX3_mount_26 rfl (lv_at hl 4 rfl) ?_
      refine lv_icmp_ne (tgt := 40) hx hb dX3_mount_27 (by decide) (fun c_13 => ?_) (fun c_13 => ?_)
      · refine lv_aload_n hx hb dX3_mount_40 rfl (lv_at hl 1 rfl) ?_
        refine lv_iload_n hx hb dX3_mount_41 rfl (lv_at hl 3 rfl) ?_
        rcases hq_14 : (c_X3_layerAt lc mc bc N G y) with _ | i_15
        · refine mt_cV1 (v := .null) (As := [.int (y)]) (rest := []) S pv_X3_layerAt mw_ml_X3_61 (k_X3_layerAt l hlt g z ad lc mc bc N G o d h6 h8 hb6 y) hC hW hS wc_0 rfl rfl rfl hl.1 rfl (Nat.le_of_ble_eq_true rfl) dX3_mount_42 ⟨(Nat.le_of_ble_eq_true rfl), (Nat.le_of_ble_eq_true rfl)⟩ ⟨(Nat.le_of_ble_eq_true rfl), (Nat.le_of_ble_eq_true rfl)⟩ (congrArg (a₂ := none) (xr_a ad 100) hq_14) (fun H locs hW hS => ?_)
          refine lv_ifnullN (tgt := 61) hx hb dX3_mount_45 (by decide) ?_
          refine mt_E_of (ad1 := ad) (w1 := mt_wc g ad lc mc bc N G o d) (fun _ _ => rfl) (scase_l (by rw [c_X3_mount, if_neg c_1, if_neg c_11, if_neg c_13, ocase_n hq_14])) ?_
          exact mt_throw S hlt mp_IOO (List.mem_of_getElem? (i := 2) rfl) hC hW hS hl.1 hout hk (congrArg (a₂ := .inl "java/lang/IndexOutOfBoundsException") xr_i (by rw [c_X3_mount, if_neg c_1, if_neg c_11, if_neg c_13, ocase_n hq_14])) dX3_mount_61 dX3_mount_64 dX3_mount_65 dX3_mount_67 dX3_mount_70 (Nat.le_of_ble_eq_true rfl) (Nat.le_of_ble_eq_true rfl) ⟨(Nat.le_of_ble_eq_true rfl), (Nat.le_of_ble_eq_true rfl)⟩ (Nat.le_of_ble_eq_true rfl) (Nat.le_of_ble_eq_true rfl)
        · refine mt_cV1 (v := .ref (ad (100 + i_15))) (As := [.int (y)]) (rest := []) S pv_X3_layerAt mw_ml_X3_61 (k_X3_layerAt l hlt g z ad lc mc bc N G o d h6 h8 hb6 y) hC hW hS wc_0 rfl rfl rfl hl.1 rfl (Nat.le_of_ble_eq_true rfl) dX3_mount_42 ⟨(Nat.le_of_ble_eq_true rfl), (Nat.le_of_ble_eq_true rfl)⟩ ⟨(Nat.le_of_ble_eq_true rfl), (Nat.le_of_ble_eq_true rfl)⟩ (congrArg (a₂ := some i_15) (xr_a ad 100) hq_14) (fun H locs hW hS => ?_)
          have hi_i_15 := c_layerAt_lt hq_14
          refine lv_ifnull hx hb dX3_mount_45 ?_
          refine lv_iload hx hb dX3_mount_48 (lv_at hl 0 rfl) ?_
          refine lv_if_eq (tgt := 71) hx hb dX3_mount_50 (by decide) (fun c_16 => absurd c_16 (by decide)) (fun c_16 => ?_)
          refine lv_aload_n hx hb dX3_mount_53 rfl (lv_at hl 1 rfl) ?_
          refine lv_iload_n hx hb dX3_mount_54 rfl (lv_at hl 4 rfl) ?_
          rcases hq_17 : (c_X3_layerAt lc mc bc N G v) with _ | i_18
          · refine mt_cV1 (v := .null) (As := [.int (v)]) (rest := []) S pv_X3_layerAt mw_ml_X3_61 (k_X3_layerAt l hlt g z ad lc mc bc N G o d h6 h8 hb6 v) hC hW hS wc_0 rfl rfl rfl hl.1 rfl (Nat.le_of_ble_eq_true rfl) dX3_mount_55 ⟨(Nat.le_of_ble_eq_true rfl), (Nat.le_of_ble_eq_true rfl)⟩ ⟨(Nat.le_of_ble_eq_true rfl), (Nat.le_of_ble_eq_true rfl)⟩ (congrArg (a₂ := none) (xr_a ad 100) hq_17) (fun H locs hW hS => ?_)
            refine lv_ifnonnullN hx hb dX3_mount_58 ?_
            refine mt_E_of (ad1 := ad) (w1 := mt_wc g ad lc mc bc N G o d) (fun _ _ => rfl) (scase_l (by rw [c_X3_mount, if_neg c_1, if_neg c_11, if_neg c_13, ocase_s hq_14, ocase_n hq_17])) ?_
            exact mt_throw S hlt mp_IOO (List.mem_of_getElem? (i := 2) rfl) hC hW hS hl.1 hout hk (congrArg (a₂ := .inl "java/lang/IndexOutOfBoundsException") xr_i (by rw [c_X3_mount, if_neg c_1, if_neg c_11, if_neg c_13, ocase_s hq_14, ocase_n hq_17])) dX3_mount_61 dX3_mount_64 dX3_mount_65 dX3_mount_67 dX3_mount_70 (Nat.le_of_ble_eq_true rfl) (Nat.le_of_ble_eq_true rfl) ⟨(Nat.le_of_ble_eq_true rfl), (Nat.le_of_ble_eq_true rfl)⟩ (Nat.le_of_ble_eq_true rfl) (Nat.le_of_ble_eq_true rfl)
          · refine mt_cV1 (v := .ref (ad (100 + i_18))) (As := [.int (v)]) (rest := []) S pv_X3_layerAt mw_ml_X3_61 (k_X3_layerAt l hlt g z ad lc mc bc N G o d h6 h8 hb6 v) hC hW hS wc_0 rfl rfl rfl hl.1 rfl (Nat.le_of_ble_eq_true rfl) dX3_mount_55 ⟨(Nat.le_of_ble_eq_true rfl), (Nat.le_of_ble_eq_true rfl)⟩ ⟨(Nat.le_of_ble_eq_true rfl), (Nat.le_of_ble_eq_true rfl)⟩ (congrArg (a₂ := some i_18) (xr_a ad 100) hq_17) (fun H locs hW hS => ?_)
            have hi_i_18 := c_layerAt_lt hq_17
            refine lv_ifnonnull (tgt := 71) hx hb dX3_mount_58 (by decide) ?_
            refine lv_aload_n hx hb dX3_mount_71 rfl (lv_at hl 1 rfl) ?_
            refine lv_iload_n hx hb dX3_mount_72 rfl (lv_at hl 3 rfl) ?_
            refine mt_cV1 (As := [.int (y)]) (rest := []) S pv_X3_isUpperOfSome mw_ml_X3_70 (k_X3_isUpperOfSome l hlt g z ad lc mc bc N G o d h6 h8 hb6 y) hC hW hS wc_0 rfl rfl rfl hl.1 rfl (Nat.le_of_ble_eq_true rfl) dX3_mount_73 ⟨(Nat.le_of_ble_eq_true rfl), (Nat.le_of_ble_eq_true rfl)⟩ ⟨(Nat.le_of_ble_eq_true rfl), (Nat.le_of_ble_eq_true rfl)⟩ rfl (fun H locs hW hS => ?_)
            refine lv_if_ne (tgt := 92) hx hb dX3_mount_76 (by decide) (fun c_19 => ?_) (fun c_19 => ?_)
            · refine mt_E_of (ad1 := ad) (w1 := mt_wc g ad lc mc bc N G o d) (fun _ _ => rfl) (scase_l (by rw [c_X3_mount, if_neg c_1, if_neg c_11, if_neg c_13, ocase_s hq_14, ocase_s hq_17, if_neg c_19])) ?_
              exact mt_throw S hlt mp_UOE (List.mem_of_getElem? (i := 3) rfl) hC hW hS hl.1 hout hk (congrArg (a₂ := .inl "java/lang/UnsupportedOperationException") xr_i (by rw [c_X3_mount, if_neg c_1, if_neg c_11, if_neg c_13, ocase_s hq_14, ocase_s hq_17, if_neg c_19])) dX3_mount_92 dX3_mount_95 dX3_mount_96 dX3_mount_98 dX3_mount_101 (Nat.le_of_ble_eq_true rfl) (Nat.le_of_ble_eq_true rfl) ⟨(Nat.le_of_ble_eq_true rfl), (Nat.le_of_ble_eq_true rfl)⟩ (Nat.le_of_ble_eq_true rfl) (Nat.le_of_ble_eq_true rfl)
            · refine lv_iload hx hb dX3_mount_79 (lv_at hl 0 rfl) ?_
              refine lv_if_eq (tgt := 102) hx hb dX3_mount_81 (by decide) (fun c_20 => absurd c_20 (by decide)) (fun c_20 => ?_)
              refine lv_aload_n hx hb dX3_mount_84 rfl (lv_at hl 1 rfl) ?_
              refine lv_iload_n hx hb dX3_mount_85 rfl (lv_at hl 4 rfl) ?_
              refine mt_cV1 (As := [.int (v)]) (rest := []) S pv_X3_isInSome mw_ml_X3_74 (k_X3_isInSome l hlt g z ad lc mc bc N G o d h6 h8 hb6 v) hC hW hS wc_0 rfl rfl rfl hl.1 rfl (Nat.le_of_ble_eq_true rfl) dX3_mount_86 ⟨(Nat.le_of_ble_eq_true rfl), (Nat.le_of_ble_eq_true rfl)⟩ ⟨(Nat.le_of_ble_eq_true rfl), (Nat.le_of_ble_eq_true rfl)⟩ rfl (fun H locs hW hS => ?_)
              refine lv_if_eq (tgt := 102) hx hb dX3_mount_89 (by decide) (fun c_21 => ?_) (fun c_21 => ?_)
              · refine lv_aload_n hx hb dX3_mount_102 rfl (lv_at hl 1 rfl) ?_
                refine mt_get S iw_X3 hC hW wc_0 rfl 8 (by decide) mw_fl_X3_82 rfl rfl dX3_mount_103 ?_
                refine lv_if_lt (tgt := 121) hx hb dX3_mount_106 (by decide) (fun c_22 => ?_) (fun c_22 => ?_)
                · refine mt_E_of (ad1 := ad) (w1 := mt_wc g ad lc mc bc N G o d) (fun _ _ => rfl) (scase_l (by rw [c_X3_mount, if_neg c_1, if_neg c_11, if_neg c_13, ocase_s hq_14, ocase_s hq_17, if_pos c_19, if_pos c_21, if_pos c_22])) ?_
                  exact mt_throw S hlt mp_ISE (List.mem_of_getElem? (i := 4) rfl) hC hW hS hl.1 hout hk (congrArg (a₂ := .inl "java/lang/IllegalStateException") xr_i (by rw [c_X3_mount, if_neg c_1, if_neg c_11, if_neg c_13, ocase_s hq_14, ocase_s hq_17, if_pos c_19, if_pos c_21, if_pos c_22])) dX3_mount_121 dX3_mount_124 dX3_mount_125 dX3_mount_127 dX3_mount_130 (Nat.le_of_ble_eq_true rfl) (Nat.le_of_ble_eq_true rfl) ⟨(Nat.le_of_ble_eq_true rfl), (Nat.le_of_ble_eq_true rfl)⟩ (Nat.le_of_ble_eq_true rfl) (Nat.le_of_ble_eq_true rfl)
                · refine lv_aload_n hx hb dX3_mount_109 rfl (lv_at hl 1 rfl) ?_
                  refine mt_get S iw_X3 hC hW wc_0 rfl 8 (by decide) mw_fl_X3_82 rfl rfl dX3_mount_110 ?_
                  refine lv_aload_n hx hb dX3_mount_113 rfl (lv_at hl 1 rfl) ?_
                  refine mt_get S iw_X3 hC hW wc_0 rfl 1 (by decide) mw_fl_X3_17 rfl rfl dX3_mount_114 ?_
                  refine mt_alen S hC hW 3 rfl wc_2 (v := 8) rfl dX3_mount_117 ?_
                  refine lv_icmp_lt (tgt := 131) hx hb dX3_mount_118 (by decide) (fun c_23 => ?_) (fun c_23 => ?_)
                  · refine lv_aload_n hx hb dX3_mount_131 rfl (lv_at hl 1 rfl) ?_
                    refine mt_get S iw_X3 hC hW wc_0 rfl 8 (by decide) mw_fl_X3_82 rfl rfl dX3_mount_132 ?_
                    refine lv_istore (lv' := [(5, .int (nI mc)), (4, .int (1)), (0, .ref (ad (0))), (1, .int (x)), (2, .int (y)), (3, .int (v))]) hx hb dX3_mount_135 hl (by decide) rfl (fun ls hl => ?_)
                    refine lv_aload_n hx hb dX3_mount_137 rfl (lv_at hl 2 rfl) ?_
                    refine mt_get S iw_X3 hC hW wc_0 rfl 1 (by decide) mw_fl_X3_17 rfl rfl dX3_mount_138 ?_
                    refine lv_iload hx hb dX3_mount_141 (lv_at hl 0 rfl) ?_
                    have h7 : mc < 8 := (nI_ltI (by omega) (by decide)).mp c_23
                    refine mt_new S iw_X2 tyX2 tyX2_ok hC hW hS mw_cl_X3_15 mw_ii_X2 mw_in_X2 (ci := 4) rfl (150 + mc) (wn_mnt h7) (fs := [.int 0, .int 0, .int 0, .int 0, .int 0]) (fun j hj => by match j, hj with | 0, _ => rfl | 1, _ => rfl | 2, _ => rfl | 3, _ => rfl | 4, _ => rfl) (Nat.le_of_ble_eq_true rfl) (Nat.le_of_ble_eq_true rfl) dX3_mount_143 (fun q H hW hS => ?_)
                    refine lv_dup hx hb dX3_mount_146 rfl ?_
                    refine lv_iload_n hx hb dX3_mount_147 rfl (lv_at hl 3 rfl) ?_
                    refine lv_iload_n hx hb dX3_mount_148 rfl (lv_at hl 4 rfl) ?_
                    refine lv_iload_n hx hb dX3_mount_149 rfl (lv_at hl 5 rfl) ?_
                    refine mt_cI (As := [.int x, .int y, .int v]) (rest := [.ref q, .int (nI mc), .ref (ad 2)]) S pI_X2 mw_ml_X3_87 (k_X2_init l g z _ _ (150 + mc) q x y v mt_ua_eq mt_up_eq) hC hW hS rfl hl.1 rfl (Nat.le_of_ble_eq_true rfl) dX3_mount_150 ⟨(Nat.le_of_ble_eq_true rfl), (Nat.le_of_ble_eq_true rfl)⟩ ⟨(Nat.le_of_ble_eq_true rfl), (Nat.le_of_ble_eq_true rfl)⟩ (fun H locs a1 hCC hW hS => ?_)
                    have eq : a1 (150 + mc) = q := by rw [hCC]; exact mt_ua_eq
                    have hA : ∀ b, b ≠ 150 + mc → a1 b = ad b := fun b h => by rw [hCC]; exact mt_ua_ne h
                    have e0 : a1 0 = ad 0 := hA 0 (by omega)
                    refine mt_aast2 S hC hW hS 3 4 (r := (RX2, TX2, 5)) rfl rfl (k := 2) (k2 := 150 + mc) (f := mt_rr ad 150 mc) (hA 2 (by omega)) eq ?_ mt_up_eq (vp_in_nI h7 (by decide)) dX3_mount_153 (fun H locs hW hS => ?_)
                    · rw [mt_up_ne (by omega), mt_up_ne (by omega)]; exact wc_2
                    have hW := hW.to (wc_addM h6 h7 hb6 hA)
                    have hl : lv_has ls 6 [(5, .int (nI mc)), (4, .int (1)), (0, .ref (a1 0)), (1, .int (x)), (2, .int (y)), (3, .int (v))] := by rw [e0]; exact hl
                    refine lv_aload_n hx hb dX3_mount_154 rfl (lv_at hl 2 rfl) ?_
                    refine lv_dup hx hb dX3_mount_155 rfl ?_
                    refine mt_get S iw_X3 hC hW mt_up_eq rfl 8 (by decide) mw_fl_X3_82 rfl rfl dX3_mount_156 ?_
                    refine lv_iconst (v := 1) hx hb dX3_mount_159 (by decide) ?_
                    refine lv_iadd hx hb dX3_mount_160 ?_
                    refine mt_te (y := nI (mc + 1)) (nI_1 _) ?_
                    refine mt_put S iw_X3 tyX3 tyX3_ok nmX3 hC hW hS mt_up_eq rfl 8 (by decide) mw_fl_X3_82 rfl rfl rfl rfl (Nat.le_of_ble_eq_true rfl) dX3_mount_161 (fun H locs hW hS => ?_)
                    have hW := hW.to wc_cntM
                    refine lv_aload_n hx hb dX3_mount_164 rfl (lv_at hl 2 rfl) ?_
                    refine mt_cVv (As := []) (rest := []) S pv_X3_serveAgain mw_ml_X3_90 (k_X3_serveAgain l hlt g z a1 lc (mc + 1) bc (mt_nm N mc x y v) G o d h6 (by omega) hb6) hC hW hS wc_0 rfl rfl rfl hl.1 rfl (Nat.le_of_ble_eq_true rfl) dX3_mount_165 ⟨(Nat.le_of_ble_eq_true rfl), (Nat.le_of_ble_eq_true rfl)⟩ ⟨(Nat.le_of_ble_eq_true rfl), (Nat.le_of_ble_eq_true rfl)⟩ rfl (fun H locs hW hS => ?_)
                    refine lv_iload hx hb dX3_mount_168 (lv_at hl 0 rfl) ?_
                    have hE : c_X3_mount lc mc bc N G x y v = .inr (nI mc) := (by rw [c_X3_mount, if_neg c_1, if_neg c_11, if_neg c_13, ocase_s hq_14, ocase_s hq_17, if_pos c_19, if_pos c_21, if_neg c_22, if_pos c_23])
                    exact mt_riE (ad1 := a1) S hr hk hA (hW.to (by rw [hE]; rfl)) hS (congrArg (a₂ := .inr (nI mc)) xr_i hE) (Nat.le_of_ble_eq_true rfl) (Nat.le_of_ble_eq_true rfl) dX3_mount_170
                  · refine mt_E_of (ad1 := ad) (w1 := mt_wc g ad lc mc bc N G o d) (fun _ _ => rfl) (scase_l (by rw [c_X3_mount, if_neg c_1, if_neg c_11, if_neg c_13, ocase_s hq_14, ocase_s hq_17, if_pos c_19, if_pos c_21, if_neg c_22, if_neg c_23])) ?_
                    exact mt_throw S hlt mp_ISE (List.mem_of_getElem? (i := 4) rfl) hC hW hS hl.1 hout hk (congrArg (a₂ := .inl "java/lang/IllegalStateException") xr_i (by rw [c_X3_mount, if_neg c_1, if_neg c_11, if_neg c_13, ocase_s hq_14, ocase_s hq_17, if_pos c_19, if_pos c_21, if_neg c_22, if_neg c_23])) dX3_mount_121 dX3_mount_124 dX3_mount_125 dX3_mount_127 dX3_mount_130 (Nat.le_of_ble_eq_true rfl) (Nat.le_of_ble_eq_true rfl) ⟨(Nat.le_of_ble_eq_true rfl), (Nat.le_of_ble_eq_true rfl)⟩ (Nat.le_of_ble_eq_true rfl) (Nat.le_of_ble_eq_true rfl)
              · refine mt_E_of (ad1 := ad) (w1 := mt_wc g ad lc mc bc N G o d) (fun _ _ => rfl) (scase_l (by rw [c_X3_mount, if_neg c_1, if_neg c_11, if_neg c_13, ocase_s hq_14, ocase_s hq_17, if_pos c_19, if_neg c_21])) ?_
                exact mt_throw S hlt mp_UOE (List.mem_of_getElem? (i := 3) rfl) hC hW hS hl.1 hout hk (congrArg (a₂ := .inl "java/lang/UnsupportedOperationException") xr_i (by rw [c_X3_mount, if_neg c_1, if_neg c_11, if_neg c_13, ocase_s hq_14, ocase_s hq_17, if_pos c_19, if_neg c_21])) dX3_mount_92 dX3_mount_95 dX3_mount_96 dX3_mount_98 dX3_mount_101 (Nat.le_of_ble_eq_true rfl) (Nat.le_of_ble_eq_true rfl) ⟨(Nat.le_of_ble_eq_true rfl), (Nat.le_of_ble_eq_true rfl)⟩ (Nat.le_of_ble_eq_true rfl) (Nat.le_of_ble_eq_true rfl)
      · refine mt_E_of (ad1 := ad) (w1 := mt_wc g ad lc mc bc N G o d) (fun _ _ => rfl) (scase_l (by rw [c_X3_mount, if_neg c_1, if_neg c_11, if_pos c_13])) ?_
        exact mt_throw S hlt mp_IAE (List.mem_of_getElem? (i := 1) rfl) hC hW hS hl.1 hout hk (congrArg (a₂ := .inl "java/lang/IllegalArgumentException") xr_i (by rw [c_X3_mount, if_neg c_1, if_neg c_11, if_pos c_13])) dX3_mount_30 dX3_mount_33 dX3_mount_34 dX3_mount_36 dX3_mount_39 (Nat.le_of_ble_eq_true rfl) (Nat.le_of_ble_eq_true rfl) ⟨(Nat.le_of_ble_eq_true rfl), (Nat.le_of_ble_eq_true rfl)⟩ (Nat.le_of_ble_eq_true rfl) (Nat.le_of_ble_eq_true rfl)
def c_X3_backUp (lc mc bc : Nat) (N G : Nat → Nat → Int32) (x : Int32) : String ⊕ Int32 := if (nI bc) < 0 then (.inl "java/lang/IllegalStateException") else (if (nI bc) < 6 then (.inr (nI bc)) else (.inl "java/lang/IllegalStateException"))
set_option maxRecDepth 100000 in
set_option maxHeartbeats 4000000 in
theorem k_X3_backUp (l : Launch) (hlt : l.stackTraces = false) (g : mt_G) (z : Nat) (ad : Nat → Nat) (lc mc bc : Nat) (N G : Nat → Nat → Int32) (o : Nat → Int64) (d : mt_D) (h6 : lc ≤ 6) (h8 : mc ≤ 8) (hb6 : bc ≤ 6) (x : Int32) (hx01 : x = 0 ∨ x = 1) (hd : ∀ k, d.2 k = none) : mt_KE l g z yX3_backUp cX3_backUp 4 (some .int) 6 131 2 2048 [.ref (ad (0)), .int x] (mt_wc g ad lc mc bc N G o d) ad (xr_i (c_X3_backUp lc mc bc N G x)) (fun a => scase (c_X3_backUp lc mc bc N G x) (fun _ => mt_wc g a lc mc bc N G o d) (fun _ => mt_wc g a lc mc (bc + 1) (mt_nb N bc x) (mt_gb G bc (fun j => if j < c_bn x then c_X3_sizeNow lc mc bc N G x (nI j) else 0)) o d)) (fun a => ∀ b, b ≠ 160 + bc ∧ b ≠ 170 + bc ∧ b ≠ 302 ∧ b ≠ 312 → a b = ad b) := by
  refine mt_ofWE (by decide +kernel) (Nat.le_of_ble_eq_true rfl) ?_
  intro p e s m args below meth c S hr9 hk hnm hout hC hW hS ls hl
  have hr := hr9
  have hx := S.1
  have hb := S.2.1
  have hl : lv_has ls 4 [(0, .ref (ad (0))), (1, .int (x))] := hl
  refine lv_aload_n hx hb dX3_backUp_0 rfl (lv_at hl 0 rfl) ?_
  refine mt_get S iw_X3 hC hW wc_0 rfl 9 (by decide) mw_fl_X3_225 rfl rfl dX3_backUp_1 ?_
  refine lv_if_lt (tgt := 19) hx hb dX3_backUp_4 (by decide) (fun c_1 => ?_) (fun c_1 => ?_)
  · refine mt_E_of (ad1 := ad) (w1 := mt_wc g ad lc mc bc N G o d) (fun _ _ => rfl) (scase_l (by rw [c_X3_backUp, if_pos c_1])) ?_
    exact mt_throw S hlt mp_ISE (List.mem_of_getElem? (i := 17) rfl) hC hW hS hl.1 hout hk (congrArg (a₂ := .inl "java/lang/IllegalStateException") xr_i (by rw [c_X3_backUp, if_pos c_1])) dX3_backUp_19 dX3_backUp_22 dX3_backUp_23 dX3_backUp_25 dX3_backUp_28 (Nat.le_of_ble_eq_true rfl) (Nat.le_of_ble_eq_true rfl) ⟨(Nat.le_of_ble_eq_true rfl), (Nat.le_of_ble_eq_true rfl)⟩ (Nat.le_of_ble_eq_true rfl) (Nat.le_of_ble_eq_true rfl)
  · refine lv_aload_n hx hb dX3_backUp_7 rfl (lv_at hl 0 rfl) ?_
    refine mt_get S iw_X3 hC hW wc_0 rfl 9 (by decide) mw_fl_X3_225 rfl rfl dX3_backUp_8 ?_
    refine lv_aload_n hx hb dX3_backUp_11 rfl (lv_at hl 0 rfl) ?_
    refine mt_get S iw_X3 hC hW wc_0 rfl 2 (by decide) mw_fl_X3_23 rfl rfl dX3_backUp_12 ?_
    refine mt_alen S hC hW 4 rfl wc_3 (v := 6) rfl dX3_backUp_15 ?_
    refine lv_icmp_lt (tgt := 29) hx hb dX3_backUp_16 (by decide) (fun c_2 => ?_) (fun c_2 => ?_)
    · have h7 : bc < 6 := (nI_ltI (by omega) (by decide)).mp c_2
      have hbn : narrow .boolean (.int x) = .int x := by rcases hx01 with h | h <;> rw [h] <;> rfl
      refine mt_new S iw_X0 tyX0 tyX0_ok hC hW hS mw_cl_X3_21 mw_ii_X0 mw_in_X0 (ci := 2) rfl 302 (hd 302) (fs := [.int 0, .null]) (fun j hj => by match j, hj with | 0, _ => rfl | 1, _ => rfl) (Nat.le_of_ble_eq_true rfl) (Nat.le_of_ble_eq_true rfl) dX3_backUp_29 (fun q H hW hS => ?_)
      refine lv_dup hx hb dX3_backUp_32 rfl ?_
      refine lv_iload_n hx hb dX3_backUp_33 rfl (lv_at hl 1 rfl) ?_
      refine mt_cI (As := [.int x]) (rest := [.ref q]) S pI_X0 mw_ml_X3_230 (k_X0_init l g z _ _ 302 q x hx01 mt_ua_eq mt_up_eq ((mt_up_ne (by omega)).trans (show mt_wc g ad lc mc bc N G o d 312 = none from hd 312))) hC hW hS rfl hl.1 rfl (Nat.le_of_ble_eq_true rfl) dX3_backUp_34 ⟨(Nat.le_of_ble_eq_true rfl), (Nat.le_of_ble_eq_true rfl)⟩ ⟨(Nat.le_of_ble_eq_true rfl), (Nat.le_of_ble_eq_true rfl)⟩ (fun H locs a1 hCC hW hS => ?_)
      have eq : a1 302 = q := (hCC _ (by omega)).trans mt_ua_eq
      have hA : ∀ b, b ≠ 302 ∧ b ≠ 312 → a1 b = ad b := fun b h => (hCC b (by omega)).trans (mt_ua_ne h.1)
      have e0 : a1 0 = ad 0 := hA 0 (by omega)
      have hW := hW.to (wc_addX h6 h8 hb6 hd hA)
      rw [← eq]
      rw [← e0] at hl
      refine lv_astore_n (lv' := [(2, .ref (a1 302)), (0, .ref (a1 0)), (1, .int x)]) hx hb dX3_backUp_37 rfl hl (by decide) rfl (fun ls hl => ?_)
      refine lv_iconst (v := 0) hx hb dX3_backUp_38 (by decide) ?_
      refine lv_istore_n (lv' := [(3, .int 0), (2, .ref (a1 302)), (0, .ref (a1 0)), (1, .int x)]) hx hb dX3_backUp_39 rfl hl (by decide) rfl (fun ls hl => ?_)
      have hl : lv_has ls 4 [(3, .int (nI 0)), (2, .ref (a1 302)), (0, .ref (a1 0)), (1, .int x)] := hl
      have hW : mt_W g z (mt_wc g a1 lc mc bc N G o (mt_xd d x (a1 312) g (fun j => if j < 0 then c_X3_sizeNow lc mc bc N G x (nI j) else 0))) a1 H := hW.to (by congr 2)
      refine lp_up (c_bn x) (fun k => mt_wc g a1 lc mc bc N G o (mt_xd d x (a1 312) g (fun j => if j < k then c_X3_sizeNow lc mc bc N G x (nI j) else 0))) (fun k => [(3, .int (nI k)), (2, .ref (a1 302)), (0, .ref (a1 0)), (1, .int x)]) (fun _ => True) 0 (Nat.zero_le _) trivial hW hS hl (fun H locs ls _ hW hS hl => ?_) (fun k H locs ls _ hkn _ hW hS hl ih => ?_)
      rotate_left
      · have hl : lv_has ls 4 [(3, .int (nI k)), (2, .ref (a1 302)), (0, .ref (a1 0)), (1, .int x)] := hl
        have hW : mt_W g z (mt_wc g a1 lc mc bc N G o (mt_xd d x (a1 312) g (fun j => if j < k then c_X3_sizeNow lc mc bc N G x (nI j) else 0))) a1 H := hW
        refine lv_iload_n hx hb dX3_backUp_40 rfl (lv_at hl 0 rfl) ?_
        refine lv_aload_n hx hb dX3_backUp_41 rfl (lv_at hl 1 rfl) ?_
        refine mt_getN S iw_X0 hC hW (k := 302) rfl rfl 1 (by decide) mw_fn_X3_233 rfl rfl dX3_backUp_42 ?_
        refine mt_alen S hC hW 0 rfl (k := 312) rfl (v := nI (c_bn x)) rfl dX3_backUp_45 ?_
        refine lv_icmp_ge (tgt := 67) hx hb dX3_backUp_46 (by decide) (fun c_8 => absurd c_8 (nI_ge (a := k) (b := c_bn x) hkn (c_bn_lt _))) (fun c_8 => ?_)
        refine lv_aload_n hx hb dX3_backUp_49 rfl (lv_at hl 1 rfl) ?_
        refine mt_getN S iw_X0 hC hW (k := 302) rfl rfl 1 (by decide) mw_fn_X3_233 rfl rfl dX3_backUp_50 ?_
        refine lv_iload_n hx hb dX3_backUp_53 rfl (lv_at hl 0 rfl) ?_
        refine lv_aload_n hx hb dX3_backUp_54 rfl (lv_at hl 2 rfl) ?_
        refine lv_iload_n hx hb dX3_backUp_55 rfl (lv_at hl 3 rfl) ?_
        refine lv_iload_n hx hb dX3_backUp_56 rfl (lv_at hl 0 rfl) ?_
        refine mt_cV1 (As := [.int x, .int (nI k)]) (rest := [.int (nI k), .ref (a1 312)]) S pv_X3_sizeNow mw_ml_X3_236 (k_X3_sizeNow l hlt g z a1 lc mc bc N G o _ h6 h8 hb6 x (nI k)) hC hW hS wc_0 rfl rfl rfl hl.1 rfl (Nat.le_of_ble_eq_true rfl) dX3_backUp_57 ⟨(Nat.le_of_ble_eq_true rfl), (Nat.le_of_ble_eq_true rfl)⟩ ⟨(Nat.le_of_ble_eq_true rfl), (Nat.le_of_ble_eq_true rfl)⟩ rfl (fun H locs hW hS => ?_)
        refine mt_iast S hC hW hS (k := 312) rfl (vp_in_nI hkn (c_bn_lt _)) dX3_backUp_60 (fun H locs hW hS => ?_)
        have hW : mt_W g z (mt_wc g a1 lc mc bc N G o (mt_xd d x (a1 312) g (fun j => if j < k + 1 then c_X3_sizeNow lc mc bc N G x (nI j) else 0))) a1 H := hW.to (by rw [wc_setx, c_upk (f := fun j => c_X3_sizeNow lc mc bc N G x (nI j)) hkn (c_bn_lt _)])
        refine lv_iinc (v := nI (k + 1)) (lv' := [(3, .int (nI (k + 1))), (2, .ref (a1 302)), (0, .ref (a1 0)), (1, .int x)]) hx hb dX3_backUp_61 hl (k := 0) rfl (nI_1 _) (by decide) rfl (fun ls hl => ?_)
        refine lv_goto (tgt := 40) hx hb dX3_backUp_64 (by decide) ?_
        exact ih _ _ _ trivial hW hS hl
      have hl : lv_has ls 4 [(3, .int (nI (c_bn x))), (2, .ref (a1 302)), (0, .ref (a1 0)), (1, .int x)] := hl
      have hW : mt_W g z (mt_wc g a1 lc mc bc N G o (mt_xd d x (a1 312) g (fun j => if j < c_bn x then c_X3_sizeNow lc mc bc N G x (nI j) else 0))) a1 H := hW
      refine lv_iload_n hx hb dX3_backUp_40 rfl (lv_at hl 0 rfl) ?_
      refine lv_aload_n hx hb dX3_backUp_41 rfl (lv_at hl 1 rfl) ?_
      refine mt_getN S iw_X0 hC hW (k := 302) rfl rfl 1 (by decide) mw_fn_X3_233 rfl rfl dX3_backUp_42 ?_
      refine mt_alen S hC hW 0 rfl (k := 312) rfl (v := nI (c_bn x)) rfl dX3_backUp_45 ?_
      refine lv_icmp_ge (tgt := 67) hx hb dX3_backUp_46 (by decide) (fun c_8 => ?_) (fun c_8 => absurd (nI_le (a := c_bn x) (b := c_bn x) (Nat.le_refl _) (c_bn_lt _)) c_8)
      refine lv_aload_n hx hb dX3_backUp_67 rfl (lv_at hl 2 rfl) ?_
      refine mt_get S iw_X3 hC hW wc_0 rfl 9 (by decide) mw_fl_X3_225 rfl rfl dX3_backUp_68 ?_
      refine lv_istore_n (lv' := [(3, .int (nI bc)), (2, .ref (a1 302)), (0, .ref (a1 0)), (1, .int x)]) hx hb dX3_backUp_71 rfl hl (by decide) rfl (fun ls hl => ?_)
      refine lv_aload_n hx hb dX3_backUp_72 rfl (lv_at hl 2 rfl) ?_
      refine mt_get S iw_X3 hC hW wc_0 rfl 2 (by decide) mw_fl_X3_23 rfl rfl dX3_backUp_73 ?_
      refine lv_iload_n hx hb dX3_backUp_76 rfl (lv_at hl 0 rfl) ?_
      refine lv_aload_n hx hb dX3_backUp_77 rfl (lv_at hl 1 rfl) ?_
      refine mt_aast S hC hW hS 4 2 (r := (RX0, TX0, 2)) rfl rfl (k := 3) (k2 := 302) (f := mt_rr a1 160 bc) wc_3 rfl (vp_in_nI h7 (by decide)) dX3_backUp_78 (fun H locs hW hS => ?_)
      obtain ⟨a2, hA2, hW⟩ := wc_addB h6 h8 h7 hd hW
      have hA3 : ∀ b, b ≠ 160 + bc ∧ b ≠ 170 + bc ∧ b ≠ 302 ∧ b ≠ 312 → a2 b = ad b := fun b h => (hA2 b ⟨h.1, h.2.1⟩).trans (hA b h.2.2)
      have hl : lv_has ls 4 [(3, .int (nI bc)), (0, .ref (a2 0))] := by rw [hA2 0 (by omega)]; exact lv_sub hl [0, 2] rfl
      refine lv_aload_n hx hb dX3_backUp_79 rfl (lv_at hl 1 rfl) ?_
      refine lv_dup hx hb dX3_backUp_80 rfl ?_
      refine mt_get S iw_X3 hC hW mt_up_eq rfl 9 (by decide) mw_fl_X3_225 rfl rfl dX3_backUp_81 ?_
      refine lv_iconst (v := 1) hx hb dX3_backUp_84 (by decide) ?_
      refine lv_iadd hx hb dX3_backUp_85 ?_
      refine mt_te (y := nI (bc + 1)) (nI_1 _) ?_
      refine mt_put S iw_X3 tyX3 tyX3_ok nmX3 hC hW hS mt_up_eq rfl 9 (by decide) mw_fl_X3_225 rfl rfl rfl rfl (Nat.le_of_ble_eq_true rfl) dX3_backUp_86 (fun H locs hW hS => ?_)
      have hW := hW.to wc_cntB
      refine lv_iload_n hx hb dX3_backUp_89 rfl (lv_at hl 0 rfl) ?_
      have hE : c_X3_backUp lc mc bc N G x = .inr (nI bc) := (by rw [c_X3_backUp, if_neg c_1, if_pos c_2])
      exact mt_riE (ad1 := a2) S hr hk hA3 (hW.to (by rw [hE]; rfl)) hS (congrArg (a₂ := .inr (nI bc)) xr_i hE) (Nat.le_of_ble_eq_true rfl) (Nat.le_of_ble_eq_true rfl) dX3_backUp_90
    · refine mt_E_of (ad1 := ad) (w1 := mt_wc g ad lc mc bc N G o d) (fun _ _ => rfl) (scase_l (by rw [c_X3_backUp, if_neg c_1, if_neg c_2])) ?_
      exact mt_throw S hlt mp_ISE (List.mem_of_getElem? (i := 17) rfl) hC hW hS hl.1 hout hk (congrArg (a₂ := .inl "java/lang/IllegalStateException") xr_i (by rw [c_X3_backUp, if_neg c_1, if_neg c_2])) dX3_backUp_19 dX3_backUp_22 dX3_backUp_23 dX3_backUp_25 dX3_backUp_28 (Nat.le_of_ble_eq_true rfl) (Nat.le_of_ble_eq_true rfl) ⟨(Nat.le_of_ble_eq_true rfl), (Nat.le_of_ble_eq_true rfl)⟩ (Nat.le_of_ble_eq_true rfl) (Nat.le_of_ble_eq_true rfl)
