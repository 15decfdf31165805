/-! handleFirst, by program (wip/mk31.py). -/
section HPY
variable {p : Program} {l : Launch} {e : Env} {R : Room} {s : State} {m : MethodId} {args : Array Value} {below : List Frame} {meth : Method} {c : Code} {H : Heap} {locs : List Loc} {cells slots : Nat} {Q : State → Prop}
variable {cc : ByteArray} {pc : Nat} {ls : Array Slot} {rest : List Value} {D : va_G} {cl : List vw_C} {A : Nat → Prop} {a : Nat} {tys : List (ClassId × FieldType)} {H0 : Heap} {L : List Nat} {f : Nat → va_E}
theorem hp_cast (hexec : p.tables.exec = Jvm.exec) (hb : c.code = cc) {own nm : String} {index ci : Nat} {r : vw_C} {fs : List Value} (hown : s.vm.findClass own = some m.cls) (hlink : (Cond.classLink own index nm).before args s = true) (hK : va_K D cl tys s) (h : hp_W D cl A H0 L f H locs) (hrc : cl[ci]? = some r) (hca : va_Nw (.castable r.1 nm) s) (he : hp_at L f a (.inr (ci, fs))) (hdg : decode cc pc = .ok (.checkcast index, 3))
    (k : W p l e R s m args below meth c H locs cells slots Q (F0 m (pc + 3) ls (.ref a :: rest))) : W p l e R s m args below meth c H locs cells slots Q (F0 m pc ls (.ref a :: rest)) := by
  obtain ⟨q0, hq⟩ := he.i
  exact va_castY hexec hb hown hlink hca (va_recv hK h.1 hrc hq) hdg k
end HPY
theorem tab6 {a : Int32} (h0 : ¬ a = 0) (h1 : ¬ a = 1) (h2 : ¬ a = 2) (h3 : ¬ a = 3) (h4 : ¬ a = 4) (h5 : ¬ a = 5) : a.toInt < 0 ∨ 5 < a.toInt := by
  by_cases h : a.toInt < 0 ∨ 5 < a.toInt
  · exact h
  · have : a.toInt = 0 ∨ a.toInt = 1 ∨ a.toInt = 2 ∨ a.toInt = 3 ∨ a.toInt = 4 ∨ a.toInt = 5 := by omega
    rcases this with z | z | z | z | z | z
    · exact absurd (Int32.toInt_inj.mp (by rw [z]; rfl)) h0
    · exact absurd (Int32.toInt_inj.mp (by rw [z]; rfl)) h1
    · exact absurd (Int32.toInt_inj.mp (by rw [z]; rfl)) h2
    · exact absurd (Int32.toInt_inj.mp (by rw [z]; rfl)) h3
    · exact absurd (Int32.toInt_inj.mp (by rw [z]; rfl)) h4
    · exact absurd (Int32.toInt_inj.mp (by rw [z]; rfl)) h5
def k_hand (E : kE) (S : kS) (x : Nat) (q : kM) : kS :=
  if q.1 = 0 then k_conn E S x q else if q.1 = 1 then k_init E S x q else if q.1 = 2 then k_tst E S x q else if q.1 = 3 then k_acc E S x q else if q.1 = 4 then k_rjt E S x q else if q.1 = 5 then k_rep E S x q else k_move E S x
def k_pop (S : kS) (x : Nat) (l : List kM) : kS := k_setq S x (S.2.2.2.1 x) l
def k_first (E : kE) (S : kS) (x : Nat) : kS := match S.2.2.1 x with
  | [] => S
  | q :: l => k_hand E (k_pop S x l) x q
def k_fk (S : kS) (x : Nat) : Int32 := match S.2.2.1 x with
  | [] => -1
  | q :: _ => q.1
def k_v (E : kE) (a : Int32) : Prop := ∃ i, i < E.2.1 ∧ a = nI i
/-- what a message finds: its edge is one, and so are WAY IN and BEST where they are used -/
def kOK (E : kE) (S : kS) (x : Nat) (q : kM) : Prop :=
  k_v E q.2.1 ∧ (q.1 = 2 → S.1 x 7 = q.2.1 → k_v E (S.1 x 4)) ∧ (q.1 = 3 ∨ q.1 = 4 → k_v E (S.1 x 4)) ∧ (q.1 = 5 → (¬ q.2.1 = S.1 x 4 → k_v E (S.1 x 4)) ∧ (q.2.1 = S.1 x 4 → ¬ S.1 x 0 = 1 → S.1 x 6 < q.2.2.1 → k_v E (S.1 x 5))) ∧
  (¬ q.1 = 0 → ¬ q.1 = 1 → ¬ q.1 = 2 → ¬ q.1 = 3 → ¬ q.1 = 4 → ¬ q.1 = 5 → k_v E (S.1 x 5))
/-- behind remove(0) -/
theorem kH.qrem {K i ea cap : Nat} {cI cO cN : ClassId} {de : Nat} {ad τ : Nat → Nat} {L : List Nat} {f f1 : Nat → va_E} {E : kE} {S : kS} {q : kM} {l : List kM} {g g' : Nat → Option Nat} {mo mo0 : Int32} (h : kH K cI cO cN de ad τ L f E S) (hi : i < K) (hqa : hp_at L f (ad (30 + i)) (ka ea (nI (l.length + 1)) mo0)) (hte : τ ea = 40 + i) (hcap : 10 ≤ cap ∧ cap < 2 ^ 20) (hlc : l.length + 1 ≤ cap) (hE : hp_at L f ea (kar cO cap g)) (hel : ∀ k x, (q :: l)[k]? = some x → ∃ a, g k = some a ∧ τ a = 5 ∧ hp_at L f a (km x))
    (hf : f1 = va_up (va_up f (ad (30 + i)) (ka ea (nI l.length) mo)) ea (kar cO cap g')) (hg : ∀ j, j < l.length → g' j = g (j + 1)) : kH K cI cO cN de ad τ L f1 E (k_setq S i cap l) ∧ kFr τ L f τ (L, f1) := by
  have t30 := (h.2.2.2.2.2.2.2.2.2.1 i hi).2.2
  have hK7 := h.2.2.2.2.2.2.2.2.2.2.2.2
  have hne : ad (30 + i) ≠ ea := kne t30 hte (by omega)
  have o : ∀ b e, hp_at L f b e → τ b ≠ 30 + i → τ b ≠ 40 + i → hp_at L f1 b e := fun b e hb h1 h2 => by
    have n1 : b ≠ ea := fun z => h2 (by rw [z]; exact hte)
    have n2 : b ≠ ad (30 + i) := fun z => h1 (by rw [z]; exact t30)
    exact ⟨hb.1, by rw [hf, va_up_ne _ _ n1, va_up_ne _ _ n2]; exact hb.2⟩
  refine ⟨h.goQ hi (fun a e _ x2 x3 x4 => ⟨o a e x4 x2 x3, rfl⟩) t30 ⟨ea, mo, ⟨hqa.1, by rw [hf, va_up_ne _ _ hne, va_up_self]⟩, Or.inr ⟨hte, hcap, by omega, g', ⟨hE.1, by rw [hf, va_up_self]⟩, fun k x hx => ?_⟩⟩, fun b hb => ⟨hb, fun ht => ⟨?_, rfl⟩⟩⟩
  · obtain ⟨a, a1, a2, a3⟩ := hel (k + 1) x (by rw [List.getElem?_cons_succ]; exact hx)
    have hk : k < l.length := (List.getElem?_eq_some_iff.mp hx).1
    exact ⟨a, (hg k hk).trans a1, a2, o a _ a3 (by omega) (by omega)⟩
  · have n1 : b ≠ ea := fun z => by rw [z] at ht; omega
    have n2 : b ≠ ad (30 + i) := fun z => by rw [z] at ht; omega
    dsimp only
    rw [hf, va_up_ne _ _ n1, va_up_ne _ _ n2]
set_option maxHeartbeats 4000000 in
set_option maxRecDepth 100000 in
theorem c_G_handleFirst (l : Launch) (D : va_G) (tys : List (ClassId × FieldType)) (de : Nat) (sa : Nat → Nat) {L : List Nat} {f : Nat → va_E} {x : Nat} {ad τ : Nat → Nat} {E : kE} {S : kS} {cI cO cN : ClassId} (ht : tys[0]? = some (cI, .int)) (ht1 : tys[1]? = some (cO, .object "java/lang/Object")) (ht2 : tys[2]? = some (cN, .object "MergingFragments$Node")) (hG : kG cI cO cN de ad τ L f E S) (hx7 : x < 7) (hW : kWE E) (hlen0 : ∀ i, i < 7 → (S.2.2.1 i).length + 41 < 2 ^ 19) (hok : ∀ q l, S.2.2.1 x = q :: l → kOK E S x q) : hp_Mi l y_G_handleFirst (gw_ws y_G_handleFirst b_G_handleFirst 3 (some .int)) { frames := 11, cells := k_cu (k_first E S x) - k_cu S, slots := k_su (k_first E S x) - k_su S, locals := 250 } D kc tys (s_X de sa) [.ref (ad 0), .ref (ad (10 + x))] L f (fun r u => r = k_fk S x ∧ kP cI cO cN de ad τ L f E (k_first E S x) u) (k_cu (k_first E S x) - k_cu S) (k_su (k_first E S x) - k_su S) := by
  refine hp_ofW (Qc := fun A => va_Qi (fun r u => r = k_fk S x ∧ kP cI cO cN de ad τ L f E (k_first E S x) u) (hp_B D kc A) A) (fr := fun A => A) (ret := (some .int)) (by decide) rfl (Nat.le_of_ble_eq_true rfl) ?_
  intro p e s m below meth c ls A hx hb hml hr hts hown hlk hnm hl hK hX h
  have hg : ∀ w ∈ gw, w.before _ s = true := fun w hw => hts w (List.mem_cons_of_mem _ hw)
  have hown : s.vm.findClass "MergingFragments" = some m.cls := hown
  have hnm : meth.name = "handleFirst" := hnm
  have hl : lv_has ls 3 [(0, .ref (ad 0)), (1, .ref (ad (10 + x)))] := hl
  have hm12 : E.2.1 ≤ 12 := hG.2.2.2.2.2.2.2.2.2.2.2.1
  have hF : kFr τ L f τ (L, f) := kFr.rf
  have he := hG.1
  have hnd := hG.2.2.2.2.2.1 x hx7
  obtain ⟨gm, hm, hm1⟩ := hG.2.2.2.2.2.2.1 x hx7
  obtain ⟨ea, mo, hqa, hQr⟩ := hG.2.2.2.2.2.2.2.1 x hx7
  have hlenx := hlen0 x hx7
  refine lv_aload_n hx hb d_G_handleFirst_0 rfl (lv_at hl 1 rfl) ?_
  refine hp_getN (v := .ref (ad (30 + x))) hx hb hg in_N hown hK h hnd rfl 2 (by decide) (s_N hX n83) (fun _ z => z) rfl d_G_handleFirst_1 ?_
  refine hp_callR (hp_runV (As := []) (rest := []) ⟨hx, hb, hml, hown, hg⟩ (c_A_isEmpty l D tys de sa hqa) (cwV 0 hg (gw_V w411 w412 w413 w5 w414) rfl rfl rfl (by decide +kernel) ⟨Nat.le_of_ble_eq_true rfl, Nat.le_of_ble_eq_true rfl⟩) (s_ok de sa) hK hX h hqa rfl rfl rfl hl.1 rfl (Nat.le_of_ble_eq_true rfl) d_G_handleFirst_4 ⟨Nat.zero_le _, Nat.zero_le _⟩) (fun r1 hp => ?_)
  cases hq : S.2.2.1 x with
  | nil =>
    rw [hq] at hp
    have hp : r1 = 1 := hp
    subst hp
    refine lv_if_eq (tgt := 12) hx hb d_G_handleFirst_7 (by decide) (fun hc => ?_) (fun hc => ?_)
    · skip
      exact absurd hc (by decide)
    · skip
      refine lv_iconst (v := (-1)) hx hb d_G_handleFirst_10 (by decide) ?_
      exact hp_iret hx hb hr hlk h ⟨by unfold k_fk; rw [hq], by unfold k_first; rw [hq]; exact ⟨_, hG, hF⟩⟩ (Nat.zero_le _) (Nat.zero_le _) d_G_handleFirst_11
  | cons q l9 =>
    rw [hq] at hp hqa hQr hlenx
    have hlx : l9.length + 42 < 2 ^ 19 := by simpa using hlenx
    have hp : r1 = 0 := by rw [hp]; exact if_neg (nI_ne0 (by simp) (by simp; omega))
    subst hp
    refine lv_if_eq (tgt := 12) hx hb d_G_handleFirst_7 (by decide) (fun hc => ?_) (fun hc => ?_)
    · skip
      have hqa : hp_at L f (ad (30 + x)) (ka ea (nI (l9.length + 1)) mo) := hqa
      rcases hQr with ⟨-, z2, -⟩ | ⟨hte, hcap, hlc, g, hE, hels⟩
      · cases z2
      have hlc : l9.length + 1 ≤ S.2.2.2.1 x := hlc
      obtain ⟨y, hg0, hyt, hy⟩ := hels 0 q rfl
      have hel : ∀ j z, j < l9.length + 1 → g j = some z → ∃ x, hp_at L f z (km x) := fun j z hj hz => by
        obtain ⟨a, h6, h7, h8⟩ := hels j ((q :: l9)[j]'(by simpa using hj)) (List.getElem?_eq_getElem _)
        cases hz.symm.trans h6
        exact ⟨_, h8⟩
      refine lv_aload_n hx hb d_G_handleFirst_12 rfl (lv_at hl 1 rfl) ?_
      refine hp_getN (v := .ref (ad (30 + x))) hx hb hg in_N hown hK h hnd rfl 2 (by decide) (s_N hX n83) (fun _ z => z) rfl d_G_handleFirst_13 ?_
      refine lv_iconst (v := 0) hx hb d_G_handleFirst_16 (by decide) ?_
      refine hp_callr (hp_runV (As := [.int 0]) (rest := []) ⟨hx, hb, hml, hown, hg⟩ (c_A_remove l D tys de sa (k := l9.length) (cap := S.2.2.2.1 x) ht1 hqa hE hlc (by omega) hel hg0) (cwV 1 hg (gw_V w415 w416 w417 w5 w418) rfl rfl rfl (by decide +kernel) ⟨Nat.le_of_ble_eq_true rfl, Nat.le_of_ble_eq_true rfl⟩) (s_ok de sa) hK hX h hqa rfl rfl rfl hl.1 rfl (Nat.le_of_ble_eq_true rfl) d_G_handleFirst_17 ⟨Nat.zero_le _, Nat.zero_le _⟩) h (fun r1 L1 f1 H locs hp h => ?_)
      obtain ⟨hr9, g1, hp1, hg1⟩ := hp
      have hr9 := hr9.symm
      subst hr9
      obtain ⟨hL1, hf1⟩ := Prod.mk.inj hp1
      have hL1 := hL1.symm
      subst hL1
      obtain ⟨hG, hFr⟩ := hG.qrem (q := q) (l := l9) hx7 hqa hte hcap hlc hE hels hf1 hg1
      have hFs := hFr
      obtain ⟨hy, hyt⟩ := hFs.msg hy hyt
      have hF := hF.trans hFs
      have hG : kG cI cO cN de ad τ L f1 E (k_pop S x l9) := hG
      have hlen : ∀ i, i < 7 → ((k_pop S x l9).2.2.1 i).length + 40 < 2 ^ 19 := fun i hi => by
        show (kup S.2.2.1 x l9 i).length + 40 < 2 ^ 19
        by_cases z : i = x
        · rw [z, kup_self]; omega
        · rw [kup_ne _ _ z]; have := hlen0 i hi; omega
      obtain ⟨⟨j, hj, hqj⟩, ok2, ok3, ok4, ok5⟩ := hok q l9 hq
      have hcu0 : k_cu (k_pop S x l9) = k_cu S := rfl
      have hsu0 : k_su (k_pop S x l9) = k_su S := rfl
      have hfk : k_fk S x = q.1 := by unfold k_fk; rw [hq]
      have hfs : k_first E S x = k_hand E (k_pop S x l9) x q := by unfold k_first; rw [hq]
      have he := hG.1
      have hnd := hG.2.2.2.2.2.1 x hx7
      obtain ⟨gm, hm, hm1⟩ := hG.2.2.2.2.2.2.1 x hx7
      refine hp_cast (ci := 2) hx hb hown (hg _ w312) hK h rfl (s_Nw hX n737) hy d_G_handleFirst_20 ?_
      refine lv_astore_n (lv' := [(2, .ref y), (0, .ref (ad 0)), (1, .ref (ad (10 + x)))]) hx hb d_G_handleFirst_23 rfl hl (by decide) rfl (fun ls hl => ?_)
      refine lv_aload_n hx hb d_G_handleFirst_24 rfl (lv_at hl 0 rfl) ?_
      refine hp_callR (hp_runV (As := []) (rest := []) ⟨hx, hb, hml, hown, hg⟩ (c_M_kind l D tys de sa hy) (cwV 0 hg (gw_V w430 w431 w432 w15 w433) rfl rfl rfl (by decide +kernel) ⟨Nat.le_of_ble_eq_true rfl, Nat.le_of_ble_eq_true rfl⟩) (s_ok de sa) hK hX h hy rfl rfl rfl hl.1 rfl (Nat.le_of_ble_eq_true rfl) d_G_handleFirst_25 ⟨by dsimp only; omega, by dsimp only; omega⟩) (fun r1 hp => ?_)
      subst hp
      by_cases h0 : q.1 = 0
      · skip
        refine lv_tableIn (off := 40) (tgt := 68) hx hb d_G_handleFirst_28 (by rw [h0]; decide) (by rw [h0]; decide) (by rw [h0]; decide) (by decide) ?_
        have hS9 : k_first E S x = (k_conn E (k_pop S x l9) x q) := by rw [hfs]; unfold k_hand; rw [if_pos h0]
        have hcu : k_cu (k_first E S x) = k_cu (k_conn E (k_pop S x l9) x q) := by rw [hS9]
        have hsu : k_su (k_first E S x) = k_su (k_conn E (k_pop S x l9) x q) := by rw [hS9]
        refine lv_aload_n hx hb d_G_handleFirst_68 rfl (lv_at hl 1 rfl) ?_
        refine lv_aload_n hx hb d_G_handleFirst_69 rfl (lv_at hl 2 rfl) ?_
        refine lv_aload_n hx hb d_G_handleFirst_70 rfl (lv_at hl 0 rfl) ?_
        refine hp_callv (hp_runV (As := [.ref (ad (10 + x)), .ref y]) (rest := []) ⟨hx, hb, hml, hown, hg⟩ (c_G_handleConnect l D tys de sa ht ht1 ht2 hG hx7 hW hlen hy hyt hqj hj ) (cwV 2 hg (gw_V w434 w436 ws14 w1 w437) rfl rfl rfl (by decide +kernel) ⟨Nat.le_of_ble_eq_true rfl, Nat.le_of_ble_eq_true rfl⟩) (s_ok de sa) hK hX h (hG.1) rfl rfl rfl hl.1 rfl (Nat.le_of_ble_eq_true rfl) d_G_handleFirst_71 ⟨by dsimp only; omega, by dsimp only; omega⟩) h (fun Lc fc H locs hp h => ?_)
        obtain ⟨τc, hG, hFc⟩ := hp
        have hFs := hFc
        obtain ⟨hy, hyt⟩ := hFs.msg hy hyt
        have hF := hF.trans hFs
        dsimp only at hG
        refine lv_goto (tgt := 127) hx hb d_G_handleFirst_74 (by decide) ?_
        refine lv_aload_n hx hb d_G_handleFirst_127 rfl (lv_at hl 0 rfl) ?_
        refine hp_callR (hp_runV (As := []) (rest := []) ⟨hx, hb, hml, hown, hg⟩ (c_M_kind l D tys de sa hy) (cwV 0 hg (gw_V w430 w431 w432 w15 w433) rfl rfl rfl (by decide +kernel) ⟨Nat.le_of_ble_eq_true rfl, Nat.le_of_ble_eq_true rfl⟩) (s_ok de sa) hK hX h hy rfl rfl rfl hl.1 rfl (Nat.le_of_ble_eq_true rfl) d_G_handleFirst_128 ⟨by dsimp only; omega, by dsimp only; omega⟩) (fun r1 hp => ?_)
        subst hp
        exact hp_iret hx hb hr hlk h ⟨hfk.symm, by rw [hS9]; exact ⟨_, hG, hF⟩⟩ (by omega) (by omega) d_G_handleFirst_131
      by_cases h1 : q.1 = 1
      · skip
        refine lv_tableIn (off := 49) (tgt := 77) hx hb d_G_handleFirst_28 (by rw [h1]; decide) (by rw [h1]; decide) (by rw [h1]; decide) (by decide) ?_
        have hS9 : k_first E S x = (k_init E (k_pop S x l9) x q) := by rw [hfs]; unfold k_hand; rw [if_neg h0, if_pos h1]
        have hcu : k_cu (k_first E S x) = k_cu (k_init E (k_pop S x l9) x q) := by rw [hS9]
        have hsu : k_su (k_first E S x) = k_su (k_init E (k_pop S x l9) x q) := by rw [hS9]
        refine lv_aload_n hx hb d_G_handleFirst_77 rfl (lv_at hl 1 rfl) ?_
        refine lv_aload_n hx hb d_G_handleFirst_78 rfl (lv_at hl 2 rfl) ?_
        refine lv_aload_n hx hb d_G_handleFirst_79 rfl (lv_at hl 0 rfl) ?_
        refine hp_callv (hp_runV (As := [.ref (ad (10 + x)), .ref y]) (rest := []) ⟨hx, hb, hml, hown, hg⟩ (c_G_handleInitiate l D tys de sa ht ht1 ht2 hG hx7 hW hlen hy hyt hqj hj ) (cwV 2 hg (gw_V w447 w449 ws16 w1 w450) rfl rfl rfl (by decide +kernel) ⟨Nat.le_of_ble_eq_true rfl, Nat.le_of_ble_eq_true rfl⟩) (s_ok de sa) hK hX h (hG.1) rfl rfl rfl hl.1 rfl (Nat.le_of_ble_eq_true rfl) d_G_handleFirst_80 ⟨by dsimp only; omega, by dsimp only; omega⟩) h (fun Lc fc H locs hp h => ?_)
        obtain ⟨τc, hG, hFc⟩ := hp
        have hFs := hFc
        obtain ⟨hy, hyt⟩ := hFs.msg hy hyt
        have hF := hF.trans hFs
        dsimp only at hG
        refine lv_goto (tgt := 127) hx hb d_G_handleFirst_83 (by decide) ?_
        refine lv_aload_n hx hb d_G_handleFirst_127 rfl (lv_at hl 0 rfl) ?_
        refine hp_callR (hp_runV (As := []) (rest := []) ⟨hx, hb, hml, hown, hg⟩ (c_M_kind l D tys de sa hy) (cwV 0 hg (gw_V w430 w431 w432 w15 w433) rfl rfl rfl (by decide +kernel) ⟨Nat.le_of_ble_eq_true rfl, Nat.le_of_ble_eq_true rfl⟩) (s_ok de sa) hK hX h hy rfl rfl rfl hl.1 rfl (Nat.le_of_ble_eq_true rfl) d_G_handleFirst_128 ⟨by dsimp only; omega, by dsimp only; omega⟩) (fun r1 hp => ?_)
        subst hp
        exact hp_iret hx hb hr hlk h ⟨hfk.symm, by rw [hS9]; exact ⟨_, hG, hF⟩⟩ (by omega) (by omega) d_G_handleFirst_131
      by_cases h2 : q.1 = 2
      · skip
        refine lv_tableIn (off := 58) (tgt := 86) hx hb d_G_handleFirst_28 (by rw [h2]; decide) (by rw [h2]; decide) (by rw [h2]; decide) (by decide) ?_
        have hS9 : k_first E S x = (k_tst E (k_pop S x l9) x q) := by rw [hfs]; unfold k_hand; rw [if_neg h0, if_neg h1, if_pos h2]
        have hcu : k_cu (k_first E S x) = k_cu (k_tst E (k_pop S x l9) x q) := by rw [hS9]
        have hsu : k_su (k_first E S x) = k_su (k_tst E (k_pop S x l9) x q) := by rw [hS9]
        refine lv_aload_n hx hb d_G_handleFirst_86 rfl (lv_at hl 1 rfl) ?_
        refine lv_aload_n hx hb d_G_handleFirst_87 rfl (lv_at hl 2 rfl) ?_
        refine lv_aload_n hx hb d_G_handleFirst_88 rfl (lv_at hl 0 rfl) ?_
        refine hp_callv (hp_runV (As := [.ref (ad (10 + x)), .ref y]) (rest := []) ⟨hx, hb, hml, hown, hg⟩ (c_G_handleTest l D tys de sa ht ht1 ht2 hG hx7 hW hlen hy hyt hqj hj (fun z => ok2 h2 (z.trans hqj.symm))) (cwV 2 hg (gw_V w468 w470 ws19 w1 w471) rfl rfl rfl (by decide +kernel) ⟨Nat.le_of_ble_eq_true rfl, Nat.le_of_ble_eq_true rfl⟩) (s_ok de sa) hK hX h (hG.1) rfl rfl rfl hl.1 rfl (Nat.le_of_ble_eq_true rfl) d_G_handleFirst_89 ⟨by dsimp only; omega, by dsimp only; omega⟩) h (fun Lc fc H locs hp h => ?_)
        obtain ⟨τc, hG, hFc⟩ := hp
        have hFs := hFc
        obtain ⟨hy, hyt⟩ := hFs.msg hy hyt
        have hF := hF.trans hFs
        dsimp only at hG
        refine lv_goto (tgt := 127) hx hb d_G_handleFirst_92 (by decide) ?_
        refine lv_aload_n hx hb d_G_handleFirst_127 rfl (lv_at hl 0 rfl) ?_
        refine hp_callR (hp_runV (As := []) (rest := []) ⟨hx, hb, hml, hown, hg⟩ (c_M_kind l D tys de sa hy) (cwV 0 hg (gw_V w430 w431 w432 w15 w433) rfl rfl rfl (by decide +kernel) ⟨Nat.le_of_ble_eq_true rfl, Nat.le_of_ble_eq_true rfl⟩) (s_ok de sa) hK hX h hy rfl rfl rfl hl.1 rfl (Nat.le_of_ble_eq_true rfl) d_G_handleFirst_128 ⟨by dsimp only; omega, by dsimp only; omega⟩) (fun r1 hp => ?_)
        subst hp
        exact hp_iret hx hb hr hlk h ⟨hfk.symm, by rw [hS9]; exact ⟨_, hG, hF⟩⟩ (by omega) (by omega) d_G_handleFirst_131
      by_cases h3 : q.1 = 3
      · skip
        refine lv_tableIn (off := 67) (tgt := 95) hx hb d_G_handleFirst_28 (by rw [h3]; decide) (by rw [h3]; decide) (by rw [h3]; decide) (by decide) ?_
        have hS9 : k_first E S x = (k_acc E (k_pop S x l9) x q) := by rw [hfs]; unfold k_hand; rw [if_neg h0, if_neg h1, if_neg h2, if_pos h3]
        have hcu : k_cu (k_first E S x) = k_cu (k_acc E (k_pop S x l9) x q) := by rw [hS9]
        have hsu : k_su (k_first E S x) = k_su (k_acc E (k_pop S x l9) x q) := by rw [hS9]
        refine lv_aload_n hx hb d_G_handleFirst_95 rfl (lv_at hl 1 rfl) ?_
        refine lv_aload_n hx hb d_G_handleFirst_96 rfl (lv_at hl 2 rfl) ?_
        refine lv_aload_n hx hb d_G_handleFirst_97 rfl (lv_at hl 0 rfl) ?_
        refine hp_callv (hp_runV (As := [.ref (ad (10 + x)), .ref y]) (rest := []) ⟨hx, hb, hml, hown, hg⟩ (c_G_handleAccept l D tys de sa ht ht1 ht2 hG hx7 hW hlen hy hyt hqj hj (ok3 (Or.inl h3))) (cwV 2 hg (gw_V w476 w478 ws21 w1 w479) rfl rfl rfl (by decide +kernel) ⟨Nat.le_of_ble_eq_true rfl, Nat.le_of_ble_eq_true rfl⟩) (s_ok de sa) hK hX h (hG.1) rfl rfl rfl hl.1 rfl (Nat.le_of_ble_eq_true rfl) d_G_handleFirst_98 ⟨by dsimp only; omega, by dsimp only; omega⟩) h (fun Lc fc H locs hp h => ?_)
        obtain ⟨τc, hG, hFc⟩ := hp
        have hFs := hFc
        obtain ⟨hy, hyt⟩ := hFs.msg hy hyt
        have hF := hF.trans hFs
        dsimp only at hG
        refine lv_goto (tgt := 127) hx hb d_G_handleFirst_101 (by decide) ?_
        refine lv_aload_n hx hb d_G_handleFirst_127 rfl (lv_at hl 0 rfl) ?_
        refine hp_callR (hp_runV (As := []) (rest := []) ⟨hx, hb, hml, hown, hg⟩ (c_M_kind l D tys de sa hy) (cwV 0 hg (gw_V w430 w431 w432 w15 w433) rfl rfl rfl (by decide +kernel) ⟨Nat.le_of_ble_eq_true rfl, Nat.le_of_ble_eq_true rfl⟩) (s_ok de sa) hK hX h hy rfl rfl rfl hl.1 rfl (Nat.le_of_ble_eq_true rfl) d_G_handleFirst_128 ⟨by dsimp only; omega, by dsimp only; omega⟩) (fun r1 hp => ?_)
        subst hp
        exact hp_iret hx hb hr hlk h ⟨hfk.symm, by rw [hS9]; exact ⟨_, hG, hF⟩⟩ (by omega) (by omega) d_G_handleFirst_131
      by_cases h4 : q.1 = 4
      · skip
        refine lv_tableIn (off := 76) (tgt := 104) hx hb d_G_handleFirst_28 (by rw [h4]; decide) (by rw [h4]; decide) (by rw [h4]; decide) (by decide) ?_
        have hS9 : k_first E S x = (k_rjt E (k_pop S x l9) x q) := by rw [hfs]; unfold k_hand; rw [if_neg h0, if_neg h1, if_neg h2, if_neg h3, if_pos h4]
        have hcu : k_cu (k_first E S x) = k_cu (k_rjt E (k_pop S x l9) x q) := by rw [hS9]
        have hsu : k_su (k_first E S x) = k_su (k_rjt E (k_pop S x l9) x q) := by rw [hS9]
        refine lv_aload_n hx hb d_G_handleFirst_104 rfl (lv_at hl 1 rfl) ?_
        refine lv_aload_n hx hb d_G_handleFirst_105 rfl (lv_at hl 2 rfl) ?_
        refine lv_aload_n hx hb d_G_handleFirst_106 rfl (lv_at hl 0 rfl) ?_
        refine hp_callv (hp_runV (As := [.ref (ad (10 + x)), .ref y]) (rest := []) ⟨hx, hb, hml, hown, hg⟩ (c_G_handleReject l D tys de sa ht ht1 ht2 hG hx7 hW hlen hy hyt hqj hj (ok3 (Or.inr h4))) (cwV 2 hg (gw_V w484 w486 ws23 w1 w487) rfl rfl rfl (by decide +kernel) ⟨Nat.le_of_ble_eq_true rfl, Nat.le_of_ble_eq_true rfl⟩) (s_ok de sa) hK hX h (hG.1) rfl rfl rfl hl.1 rfl (Nat.le_of_ble_eq_true rfl) d_G_handleFirst_107 ⟨by dsimp only; omega, by dsimp only; omega⟩) h (fun Lc fc H locs hp h => ?_)
        obtain ⟨τc, hG, hFc⟩ := hp
        have hFs := hFc
        obtain ⟨hy, hyt⟩ := hFs.msg hy hyt
        have hF := hF.trans hFs
        dsimp only at hG
        refine lv_goto (tgt := 127) hx hb d_G_handleFirst_110 (by decide) ?_
        refine lv_aload_n hx hb d_G_handleFirst_127 rfl (lv_at hl 0 rfl) ?_
        refine hp_callR (hp_runV (As := []) (rest := []) ⟨hx, hb, hml, hown, hg⟩ (c_M_kind l D tys de sa hy) (cwV 0 hg (gw_V w430 w431 w432 w15 w433) rfl rfl rfl (by decide +kernel) ⟨Nat.le_of_ble_eq_true rfl, Nat.le_of_ble_eq_true rfl⟩) (s_ok de sa) hK hX h hy rfl rfl rfl hl.1 rfl (Nat.le_of_ble_eq_true rfl) d_G_handleFirst_128 ⟨by dsimp only; omega, by dsimp only; omega⟩) (fun r1 hp => ?_)
        subst hp
        exact hp_iret hx hb hr hlk h ⟨hfk.symm, by rw [hS9]; exact ⟨_, hG, hF⟩⟩ (by omega) (by omega) d_G_handleFirst_131
      by_cases h5 : q.1 = 5
      · skip
        refine lv_tableIn (off := 85) (tgt := 113) hx hb d_G_handleFirst_28 (by rw [h5]; decide) (by rw [h5]; decide) (by rw [h5]; decide) (by decide) ?_
        have hS9 : k_first E S x = (k_rep E (k_pop S x l9) x q) := by rw [hfs]; unfold k_hand; rw [if_neg h0, if_neg h1, if_neg h2, if_neg h3, if_neg h4, if_pos h5]
        have hcu : k_cu (k_first E S x) = k_cu (k_rep E (k_pop S x l9) x q) := by rw [hS9]
        have hsu : k_su (k_first E S x) = k_su (k_rep E (k_pop S x l9) x q) := by rw [hS9]
        refine lv_aload_n hx hb d_G_handleFirst_113 rfl (lv_at hl 1 rfl) ?_
        refine lv_aload_n hx hb d_G_handleFirst_114 rfl (lv_at hl 2 rfl) ?_
        refine lv_aload_n hx hb d_G_handleFirst_115 rfl (lv_at hl 0 rfl) ?_
        refine hp_callv (hp_runV (As := [.ref (ad (10 + x)), .ref y]) (rest := []) ⟨hx, hb, hml, hown, hg⟩ (c_G_handleReport l D tys de sa ht ht1 ht2 hG hx7 hW hlen hy hyt hqj hj (ok4 h5).1 (ok4 h5).2) (cwV 2 hg (gw_V w488 w490 ws24 w1 w491) rfl rfl rfl (by decide +kernel) ⟨Nat.le_of_ble_eq_true rfl, Nat.le_of_ble_eq_true rfl⟩) (s_ok de sa) hK hX h (hG.1) rfl rfl rfl hl.1 rfl (Nat.le_of_ble_eq_true rfl) d_G_handleFirst_116 ⟨by dsimp only; omega, by dsimp only; omega⟩) h (fun Lc fc H locs hp h => ?_)
        obtain ⟨τc, hG, hFc⟩ := hp
        have hFs := hFc
        obtain ⟨hy, hyt⟩ := hFs.msg hy hyt
        have hF := hF.trans hFs
        dsimp only at hG
        refine lv_goto (tgt := 127) hx hb d_G_handleFirst_119 (by decide) ?_
        refine lv_aload_n hx hb d_G_handleFirst_127 rfl (lv_at hl 0 rfl) ?_
        refine hp_callR (hp_runV (As := []) (rest := []) ⟨hx, hb, hml, hown, hg⟩ (c_M_kind l D tys de sa hy) (cwV 0 hg (gw_V w430 w431 w432 w15 w433) rfl rfl rfl (by decide +kernel) ⟨Nat.le_of_ble_eq_true rfl, Nat.le_of_ble_eq_true rfl⟩) (s_ok de sa) hK hX h hy rfl rfl rfl hl.1 rfl (Nat.le_of_ble_eq_true rfl) d_G_handleFirst_128 ⟨by dsimp only; omega, by dsimp only; omega⟩) (fun r1 hp => ?_)
        subst hp
        exact hp_iret hx hb hr hlk h ⟨hfk.symm, by rw [hS9]; exact ⟨_, hG, hF⟩⟩ (by omega) (by omega) d_G_handleFirst_131
      refine lv_tableOut (tgt := 122) hx hb d_G_handleFirst_28 (tab6 h0 h1 h2 h3 h4 h5) (by decide) ?_
      obtain ⟨jb, hjb, hbj⟩ := ok5 h0 h1 h2 h3 h4 h5
      have hS9 : k_first E S x = (k_move E (k_pop S x l9) x) := by rw [hfs]; unfold k_hand; rw [if_neg h0, if_neg h1, if_neg h2, if_neg h3, if_neg h4, if_neg h5]
      have hcu : k_cu (k_first E S x) = k_cu (k_move E (k_pop S x l9) x) := by rw [hS9]
      have hsu : k_su (k_first E S x) = k_su (k_move E (k_pop S x l9) x) := by rw [hS9]
      refine lv_aload_n hx hb d_G_handleFirst_122 rfl (lv_at hl 1 rfl) ?_
      refine lv_aload_n hx hb d_G_handleFirst_123 rfl (lv_at hl 2 rfl) ?_
      refine hp_callv (hp_runV (As := [.ref (ad (10 + x))]) (rest := []) ⟨hx, hb, hml, hown, hg⟩ (c_G_moveCore l D tys de sa ht ht1 ht2 hG hx7 hW (fun i hi => Nat.lt_of_le_of_lt (Nat.le_add_right _ 40) (hlen i hi)) hjb hbj) (cwV 1 hg (gw_V w492 w494 ws25 w1 w495) rfl rfl rfl (by decide +kernel) ⟨Nat.le_of_ble_eq_true rfl, Nat.le_of_ble_eq_true rfl⟩) (s_ok de sa) hK hX h (hG.1) rfl rfl rfl hl.1 rfl (Nat.le_of_ble_eq_true rfl) d_G_handleFirst_124 ⟨by dsimp only; omega, by dsimp only; omega⟩) h (fun Lc fc H locs hp h => ?_)
      obtain ⟨τc, hG, hFc⟩ := hp
      have hFs := hFc
      obtain ⟨hy, hyt⟩ := hFs.msg hy hyt
      have hF := hF.trans hFs
      dsimp only at hG
      refine lv_aload_n hx hb d_G_handleFirst_127 rfl (lv_at hl 0 rfl) ?_
      refine hp_callR (hp_runV (As := []) (rest := []) ⟨hx, hb, hml, hown, hg⟩ (c_M_kind l D tys de sa hy) (cwV 0 hg (gw_V w430 w431 w432 w15 w433) rfl rfl rfl (by decide +kernel) ⟨Nat.le_of_ble_eq_true rfl, Nat.le_of_ble_eq_true rfl⟩) (s_ok de sa) hK hX h hy rfl rfl rfl hl.1 rfl (Nat.le_of_ble_eq_true rfl) d_G_handleFirst_128 ⟨by dsimp only; omega, by dsimp only; omega⟩) (fun r1 hp => ?_)
      subst hp
      exact hp_iret hx hb hr hlk h ⟨hfk.symm, by rw [hS9]; exact ⟨_, hG, hF⟩⟩ (by omega) (by omega) d_G_handleFirst_131
    · skip
      exact absurd rfl hc
