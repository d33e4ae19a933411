theorem sp_X11_text {k n : Nat} {x : Wx} {Z : Zt} {Q : Option Value → Wx → Zt → Prop} {a : Nat} {t e : Int} (o : Is11 x a) {S : Ab} (hI : OI x Z a S) (ht : Rg t) (he : Rg e) (h : ∀ (Z' : Zt) (f r : Nat → Int) (ans : Int) (T' : Td), TxR S.nw t e f r ans T' → OI x Z' a (T', S.im) → Fx a x x Z Z' → Q (some (i_ ans)) x Z') : V mX11_text k n 0 [some (r_ a), some (i_ t), some (i_ e), none, none, none] [] x Z Q := by
  obtain ⟨_, hk, hr3, hT, _, hVV, _⟩ := id hI
  have hV := hVV.1
  obtain ⟨v1, v4, v5, v6, v7, v8, v9, v10, v11, v12⟩ := id hV
  have hct := hI.ct
  refine b_X11_text_0 o fun Z1 e1 Z2 e2 Z3 e3 => ?_
  have z3 : ∀ b, b ≠ a + 1 → Z3 b = Z b := fun b hb => by rw [e3, up_row _ _ _ _ _ hb, e2, up_row _ _ _ _ _ hb, e1, up_row _ _ _ _ _ hb]
  have z31 : Z3 (a + 1) 1 = 0 ∧ Z3 (a + 1) 2 = 0 ∧ Z3 (a + 1) 3 = -1 := by
    refine ⟨?_, ?_, ?_⟩
    · rw [e3, up_at, if_neg (by decide), e2, up_at, if_neg (by decide), e1, up_at, if_pos rfl]
    · rw [e3, up_at, if_neg (by decide), e2, up_at, if_pos rfl]
    · rw [e3, up_at, if_pos rfl]
  have V0 : TdV (S.nw.tp, 0, 0, -1, S.nw.ct, S.nw.rw) := ⟨v1, ⟨by show (0 : Int) ≤ 0; decide, by show (0 : Int) ≤ 600; decide⟩, ⟨by show (0 : Int) ≤ 0; decide, by show (0 : Int) ≤ 4; decide⟩, ⟨by show (-1 : Int) ≤ -1; decide, by show (-1 : Int) ≤ 600; decide⟩, v7, v8, v9, v10, v11, v12⟩
  have hI3 := hI.tld (Z' := Z3) (T := (S.nw.tp, 0, 0, -1, S.nw.ct, S.nw.rw)) ⟨rfl, rfl⟩ V0 ⟨by rw [z3 _ (by omega)]; exact hT.1, z31, fun i hi => by rw [z3 _ (by omega)]; exact hT.2.2.1 i hi, fun r hr => by rw [z3 _ (by omega)]; exact hT.2.2.2 r hr⟩ (fun b hb => z3 b (by omega))
  have no : ¬ txOk S.nw t e → Q (some (i_ (-2))) x Z3 := fun hn => h Z3 (fun _ => 0) (fun _ => 0) (-2) _ (Or.inl ⟨hn, rfl, rfl⟩) hI3.1 hI3.2
  rw [hT.2.1.1]
  -- behind the tests
  have go : txOk S.nw t e → ∀ u : Int, u = (if e = -1 then 1 else 0) → V mX11_text k n 96 [some (r_ a), some (i_ t), some (i_ e), some (i_ S.nw.ln), some (i_ u), none] [] x Z3 Q := fun hok u hu => by
    have ho1 := hok.1
    have hk3 := hI3.1.2.1
    refine b_X11_text_96 hr3 o o.qK0.2.2.1 ⟨hk3.1, hk3.2.1, hk3.2.2.1, hk3.2.2.2.1, ?_, ht, v4, fun Z4 e4 Z5 e5 Z6 e6 => ?_⟩
    · rw [z3 _ (by omega), show Z (a + 2) = S.nw.tp from hT.1]; exact v1.1
    · rw [z3 (a + 2) (by omega), show Z (a + 2) = S.nw.tp from hT.1] at e4
      generalize hf : Z3 (a + 14) = f at e4
      generalize hr : Z3 (a + 14 + 1) = r at e4
      have hall := rdS_all (s := S.nw.tp) (t := t) v4 f r
      have e4' : Z4 = setS Z3 (a + 14) (txQ S.nw t f r) := e4
      have hQ : txQ S.nw t f r = rdS S.nw.tp t S.nw.ln (f, r) := rfl
      rw [← hQ] at hall
      have hTF : txF S.nw t f r = if (txQ S.nw t f r).1 1 = 0 ∧ t = 0 ∧ sndB (txQ S.nw t f r).2 = false then (4, S.nw.ln) else ((txQ S.nw t f r).1 1, (txQ S.nw t f r).1 2) := rfl
      have hx := fun ans T' => h (f := f) (r := r) (ans := ans) (T' := T')
      unfold TxR at hx
      generalize txQ S.nw t f r = q at e4' hall hTF hx
      have z4o : ∀ b, b ≠ a + 14 → b ≠ a + 15 → Z4 b = Z3 b := fun b h1 h2 => by rw [e4']; exact setS_ne Z3 q ⟨h1, h2⟩
      have z4a : Z4 (a + 14) = q.1 ∧ Z4 (a + 15) = q.2 := by
        rw [e4']
        unfold setS setR
        refine ⟨?_, ?_⟩
        · rw [if_neg (by omega), if_pos rfl]
        · rw [if_pos rfl]
      have z5o : ∀ b, b ≠ a + 1 → Z6 b = Z4 b := fun b hb => by rw [e6, up_row _ _ _ _ _ hb, e5, up_row _ _ _ _ _ hb]
      have z61 : Z6 (a + 1) 1 = 0 ∧ Z6 (a + 1) 2 = q.1 1 ∧ Z6 (a + 1) 3 = q.1 2 := by
        refine ⟨?_, ?_, ?_⟩
        · rw [e6, up_at, if_neg (by decide), e5, up_at, if_neg (by decide), z4o _ (by omega) (by omega)]; exact z31.1
        · rw [e6, up_at, if_neg (by decide), e5, up_at, if_pos rfl, z4a.1]
        · rw [e6, up_at, if_pos rfl, e5, up_row _ _ _ _ _ (by omega), z4a.1]
      have zrow : ∀ b, a + 2 ≤ b → b < a + 13 → Z6 b = Z b := fun b h1 h2 => by rw [z5o b (by omega), z4o b (by omega) (by omega), z3 b (by omega)]
      -- behind the reading: fault F at place P in Z9
      have tail : ∀ (F P : Int) (Z9 : Zt), (F, P) = txF S.nw t f r → (∀ b, ¬ (b = a + 1 ∨ (a + 16 ≤ b ∧ b < a + 40)) → Z9 b = Z6 b) → (Z9 (a + 1) 1 = 0 ∧ Z9 (a + 1) 2 = F ∧ Z9 (a + 1) 3 = P) → (0 ≤ F ∧ F ≤ 4) → (-1 ≤ P ∧ P ≤ 600) → (F = 0 → (if t = 0 then CrvR q.2 else if t = 1 then SumR q.2 else FunR q.2)) → V mX11_text k n 177 [some (r_ a), some (i_ t), some (i_ e), none, some (i_ u), none] [] x Z9 Q := by
        intro F P Z9 hFP h9 h91 hF hP hRow
        rw [← hFP] at hx
        have z9 : ∀ b, ¬ (a + 1 ≤ b ∧ b < a + 40) → Z9 b = Z b := fun b hb => by rw [h9 b (by omega), z5o b (by omega), z4o b (by omega) (by omega), z3 b (by omega)]
        have z9r : ∀ b, a + 2 ≤ b → b ≤ a + 13 → Z9 b = Z b := fun b h1 h2 => by rw [h9 b (by omega), z5o b (by omega), z4o b (by omega) (by omega), z3 b (by omega)]
        refine b_X11_text_177 o ?_
        rw [h91.2.1]
        refine ⟨⟨by omega, by omega⟩, fun c => ⟨?_, ?_⟩, fun c => ?_⟩
        · rw [hu]; split <;> exact ⟨by decide, by decide⟩
        · -- it is told
          have f207 : ∀ m : Int, m = txN S.nw t e → V mX11_text k n 207 [some (r_ a), some (i_ t), none, none, none, none] [i_ m] x Z9 Q := fun m hm => by
            have e92 : Z9 (a + 1 + 2) = Z (a + 1 + 2) := z9r _ (by omega) (by omega)
            have ect : Z (a + 1 + 2) (Int.toNat t) = S.nw.ct t.toNat := hT.2.2.1 t.toNat (by omega)
            have hcm : 0 ≤ S.nw.ct t.toNat ∧ S.nw.ct t.toNat ≤ mstr t := by
              have hc3 : t = 0 ∨ t = 1 ∨ t = 2 := by omega
              rcases hc3 with e | e | e <;> subst e
              · exact v7
              · exact v8
              · exact v9
            have hmr : 0 ≤ m ∧ m < mstr t ∧ m ≤ S.nw.ct t.toNat := by
              rw [hm]; unfold txN
              rcases hok.2 with ⟨w1, w2⟩ | ⟨w1, w2, w3⟩
              · rw [if_pos w1]; omega
              · rw [if_neg w1]; omega
            have hk9 : KW x Z9 := by
              refine hk.2.1.kept (A := fun b => a + 1 ≤ b ∧ b < a + 40) (fun b hb => z9 b hb) ?_ ?_ ?_
              · have := hk.2.2.2.2.1 0 (by decide); omega
              · have := hk.2.2.2.2.1 1 (by decide); omega
              · have := hk.2.2.2.2.1 2 (by decide); omega
            refine b_X11_text_207 o ?_
            rw [e92, ect]
            refine ⟨hk.1, o.qK2.2.2, hk9, ho1, ⟨hmr.1, hmr.2.1⟩, hcm, fun Z10 e10 Z11 e11 => ?_⟩
            have hVn : TdV (tlT S.nw t m P q.2) := tl_V hV ho1 hmr hP (hRow c)
            have z11 : ∀ b, b ≠ a → Z11 b = Z10 b := fun b hb => by rw [e11, fgt_row _ _ hb]
            have tl : ∀ b i : Nat, Z10 b i = if b = a + 1 + 4 + (fstr t + m).toNat ∧ i < 26 then Z9 (a + 15) i else if b = a + 1 + 2 ∧ i = t.toNat ∧ m = Z9 (a + 1 + 2) t.toNat then m + 1 else Z9 b i := fun b i => by rw [e10]; rfl
            have hfr : 0 ≤ fstr t + m ∧ fstr t + m < 8 := by
              have hc3 : t = 0 ∨ t = 1 ∨ t = 2 := by omega
              rcases hc3 with e | e | e <;> subst e
              · have w1 : fstr 0 = 0 := rfl
                have w2 : mstr 0 = 2 := rfl
                omega
              · have w1 : fstr 1 = 2 := rfl
                have w2 : mstr 1 = 3 := rfl
                omega
              · have w1 : fstr 2 = 5 := rfl
                have w2 : mstr 2 = 3 := rfl
                omega
            have e915 : Z9 (a + 15) = q.2 := by rw [h9 _ (by omega), z5o _ (by omega)]; exact z4a.2
            have hI11 := hI.new (Z' := Z11) (T := tlT S.nw t m P q.2) hVn ⟨?_, ⟨?_, ?_, ?_⟩, fun i hi => ?_, fun rr hrr => ?_⟩ (fun b hb => ?_) (by rw [e11]; exact fgt_at Z10 a)
            · have := hx m (tlT S.nw t m P q.2) (Z' := Z11) (Or.inr (Or.inr ⟨hok, c, hm, by rw [← hm]⟩)) hI11.1 hI11.2
              exact this
            · rw [z11 _ (by omega)]
              funext i
              rw [tl, if_neg (by omega), if_neg (by omega), z9r _ (by omega) (by omega)]
              exact congrFun hT.1 i
            · rw [z11 _ (by omega), tl, if_neg (by omega), if_neg (by omega)]; exact h91.1
            · rw [z11 _ (by omega), tl, if_neg (by omega), if_neg (by omega), h91.2.1, c]; rfl
            · rw [z11 _ (by omega), tl, if_neg (by omega), if_neg (by omega)]; exact h91.2.2
            · rw [z11 _ (by omega), tl, if_neg (by omega), e92, ect]
              show _ = if i = t.toNat ∧ m = S.nw.ct t.toNat then m + 1 else S.nw.ct i
              by_cases w : i = t.toNat ∧ m = S.nw.ct t.toNat
              · rw [if_pos ⟨rfl, w⟩, if_pos w]
              · rw [if_neg (fun e => w e.2), if_neg w]; exact hT.2.2.1 i hi
            · rw [z11 _ (by omega)]
              funext i
              rw [tl, e915]
              show _ = if rr = (fstr t + m).toNat ∧ i < 26 then q.2 i else S.nw.rw rr i
              by_cases w : rr = (fstr t + m).toNat ∧ i < 26
              · rw [if_pos ⟨by omega, w.2⟩, if_pos w]
              · rw [if_neg (fun e => w ⟨by omega, e.2⟩), if_neg w, if_neg (by omega), z9r _ (by omega) (by omega)]
                exact congrFun (hT.2.2.2 rr hrr) i
            · rw [z11 b (by omega)]
              funext i
              rw [tl, if_neg (by omega), if_neg (by omega), z9 b (by omega)]
          have e3' : Z9 (a + 3) t.toNat = S.nw.ct t.toNat := by rw [z9r _ (by omega) (by omega)]; exact hT.2.2.1 t.toNat (by omega)
          refine ⟨fun c2 => f207 _ ?_, fun c2 => ⟨ho1.1, ho1.2, f207 _ ?_⟩⟩
          · unfold txN
            rw [if_neg (fun w => by rw [hu, if_pos w] at c2; cases c2)]
          · unfold txN
            rw [if_pos (Classical.byContradiction fun w => c2 (by rw [hu, if_neg w]))]; exact e3'
        · have hI9 := hI.tls (Z' := Z9) (T := (S.nw.tp, 0, F, P, S.nw.ct, S.nw.rw)) ⟨rfl, rfl⟩ ⟨v1, ⟨by show (0 : Int) ≤ 0; decide, by show (0 : Int) ≤ 600; decide⟩, hF, hP, v7, v8, v9, v10, v11, v12⟩ ⟨by rw [z9r _ (by omega) (by omega)]; exact hT.1, h91, fun i hi => by rw [z9r _ (by omega) (by omega)]; exact hT.2.2.1 i hi, fun r hr => by rw [z9r _ (by omega) (by omega)]; exact hT.2.2.2 r hr⟩ z9 (z9r _ (by omega) (by omega))
          exact hx (-1) _ (Z' := Z9) (Or.inr (Or.inl ⟨hok, c, rfl, rfl⟩)) hI9.1 hI9.2
      have hPL := hall.1
      unfold PL at hPL
      have t0 : ∀ Z9 : Zt, Z9 = Z6 → ¬ (q.1 1 = 0 ∧ t = 0 ∧ sndB q.2 = false) → (q.1 1 = 0 → (if t = 0 then CrvR q.2 else if t = 1 then SumR q.2 else FunR q.2)) → V mX11_text k n 177 [some (r_ a), some (i_ t), some (i_ e), none, some (i_ u), none] [] x Z9 Q := fun Z9 e9 hn hR => by
        refine tail (q.1 1) (q.1 2) Z9 ?_ (fun b _ => by rw [e9]) (by rw [e9]; exact z61) ⟨hall.2.1.1, by omega⟩ hPL hR
        rw [hTF, if_neg hn]
      rw [z61.2.1]
      refine ⟨⟨by omega, by omega⟩, fun c => t0 Z6 rfl (fun w => c w.1) (fun w => absurd w c), fun c => ⟨fun c2 => t0 Z6 rfl (fun w => c2 w.2.1) (fun w => ?_), fun c2 => ?_⟩⟩
      · have := hall.2.2 w
        unfold RV at this
        rw [if_neg c2] at this ⊢
        exact this
      · have hRV := hall.2.2 c
        rw [c2] at hRV
        have e615 : Z6 (a + 15) = q.2 := by rw [z5o _ (by omega)]; exact z4a.2
        rw [e615]
        refine ⟨by omega, hRV, fun i hi => ?_, fun Z7 h7 => ⟨bI_rg _, fun c3 => ?_, fun c3 Z8 e8 Z9 e9 => ?_⟩⟩
        · unfold RV at hRV
          rw [if_pos rfl] at hRV
          have hp := hRV.1.rg
          by_cases w0 : i = 0
          · rw [w0]; exact ⟨by omega, by omega⟩
          · by_cases w1 : i = 1
            · rw [w1]; have := hRV.2.1; exact ⟨by omega, by omega⟩
            · by_cases w8 : i < 8
              · have := hRV.2.2.1 i (by omega) w8; exact ⟨by omega, by omega⟩
              · rw [hRV.2.2.2.2 i (by omega) hi]; exact ⟨by decide, by decide⟩
        · have hsd := bI_1 c3
          refine tail (q.1 1) (q.1 2) Z7 ?_ (fun b hb => h7 b (by omega)) (by rw [h7 _ (by omega)]; exact z61) ⟨hall.2.1.1, by omega⟩ hPL (fun _ => ?_)
          · rw [hTF, if_neg (fun w => by rw [hsd] at w; cases w.2.2)]
          · rw [if_pos c2]; exact sndB_crv hRV hsd
        · refine tail 4 S.nw.ln Z9 ?_ (fun b hb => by rw [e9, up_row _ _ _ _ _ (by omega), e8, up_row _ _ _ _ _ (by omega), h7 b (by omega)]) ⟨?_, ?_, ?_⟩ (by decide) (by omega) (fun w => by cases w)
          · rw [hTF, if_pos ⟨c, c2, bI_0 c3⟩]
          · rw [e9, up_at, if_neg (by decide), e8, up_at, if_neg (by decide), h7 _ (by omega)]; exact z61.1
          · rw [e9, up_at, if_neg (by decide), e8, up_at, if_pos rfl]
          · rw [e9, up_at, if_pos rfl]
  have e3ct : ∀ i : Nat, i < 3 → Z3 (a + 3) i = S.nw.ct i := fun i hi => by rw [z3 _ (by omega)]; exact hT.2.2.1 i hi
  have at54 : (0 ≤ t ∧ t < 3) → ∀ u : Int, u = (if e = -1 then 1 else 0) → V mX11_text k n 54 [some (r_ a), some (i_ t), some (i_ e), some (i_ S.nw.ln), none, none] [i_ u] x Z3 Q := fun ht3 u hu => by
    have hk3 := hI3.1.2.1
    have hcm : 0 ≤ S.nw.ct t.toNat ∧ S.nw.ct t.toNat ≤ mstr t := by
      have hc3 : t = 0 ∨ t = 1 ∨ t = 2 := by omega
      rcases hc3 with e | e | e <;> subst e
      · exact v7
      · exact v8
      · exact v9
    have hms : mstr t ≤ 3 := by unfold mstr; split <;> omega
    refine b_X11_text_54 o hk3.1.1 ?_
    rw [show Z3 (a + 1 + 2) (Int.toNat t) = S.nw.ct t.toNat from e3ct t.toNat (by omega), hk3.2.1.m ht3]
    refine ⟨by rw [hu]; split <;> exact ⟨by decide, by decide⟩, fun c => ⟨hk3.1, hk3.2.1, ht3, he, hcm, fun hn => b_X11_text_93 (no (fun w => ?_)), fun b hb => ⟨?_, ?_⟩⟩, fun c => ⟨ht3.1, ht3.2, ⟨by omega, by omega⟩, ⟨by omega, by omega⟩, fun c2 => ?_, fun c2 => b_X11_text_93 (no (fun w => ?_))⟩⟩
    · have he1 : e ≠ -1 := fun q => by rw [hu, if_pos q] at c; cases c
      rcases w.2 with ⟨q, _⟩ | ⟨_, q⟩
      · exact he1 q
      · exact rqn hn q
    · obtain ⟨w1, w2⟩ := rqs hb
      have hfr : 0 ≤ fstr t + e ∧ fstr t + e < 8 := by
        have hc3 : t = 0 ∨ t = 1 ∨ t = 2 := by omega
        rcases hc3 with e | e | e <;> subst e
        · have w1 : fstr 0 = 0 := rfl
          have w2 : mstr 0 = 2 := rfl
          omega
        · have w1 : fstr 1 = 2 := rfl
          have w2 : mstr 1 = 3 := rfl
          omega
        · have w1 : fstr 2 = 5 := rfl
          have w2 : mstr 2 = 3 := rfl
          omega
      rw [w2]; exact (hI3.1.row (r := (fstr t + e).toNat) (by omega)).1
    · have he1 : e ≠ -1 := fun q => by rw [hu, if_pos q] at c; cases c
      exact go ⟨ht3, Or.inr ⟨he1, (rqs hb).1⟩⟩ u hu
    · have he1 : e = -1 := Classical.byContradiction fun q => c (by rw [hu, if_neg q])
      exact go ⟨ht3, Or.inl ⟨he1, c2⟩⟩ u hu
    · have he1 : e = -1 := Classical.byContradiction fun q => c (by rw [hu, if_neg q])
      rcases w.2 with ⟨_, q⟩ | ⟨q, _⟩
      · omega
      · exact q he1
  refine ⟨ht, fun c => b_X11_text_41 (no (fun w => by have := w.1; omega)), fun c => ⟨fun c2 => ⟨he, fun c3 => at54 ⟨c, c2⟩ 0 (by rw [if_neg c3]), fun c3 => at54 ⟨c, c2⟩ 1 (by rw [if_pos c3])⟩, fun c2 => b_X11_text_41 (no (fun w => by have := w.1; omega))⟩⟩
