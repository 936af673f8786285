/-! WHAT HOLDS BETWEEN STATION AND REFERENCE at the head of the law's loop -/
/-- sums over the engines of a set -/
def zsum (f : Nat → Int32) (st : Nat) : Nat → Int32
  | 0 => 0
  | e + 1 => zsum f st e + (if st.testBit e then f e else 0)
def IStat (now fault refusal now' fault' status : Int32) : Prop := now = now' ∧ fault = fault' ∧ refusal = status ∧ 0 ≤ now.toInt ∧ now.toInt ≤ 2399
def IPow (en en' ru on : Int32) (mg mi de de' o1 s1 b1 o2 s2 b2 : Nat → Int32) : Prop := en = en' ∧ ru = on ∧ mg = mi ∧ de = de' ∧ (∀ i, i < 61 → 0 ≤ (mg i).toInt ∧ (mg i).toInt ≤ 1000) ∧ (∀ i, i < 24 → 0 ≤ (de i).toInt ∧ (de i).toInt ≤ 10000) ∧
  ∃ E : Nat, E ≤ 4 ∧ en = nI E ∧ (∃ r : Nat, r < 2 ^ E ∧ ru = nI r) ∧ (∀ e, e < E → (1 ≤ (o2 e).toInt ∧ (o2 e).toInt ≤ 1000) ∧ (0 ≤ (s2 e).toInt ∧ (s2 e).toInt ≤ 1000) ∧ (0 ≤ (b2 e).toInt ∧ (b2 e).toInt ≤ 1000)) ∧ ∀ st, st < 2 ^ E → o1 st = zsum o2 st E ∧ s1 st = zsum s2 st E ∧ b1 st = zsum b2 st E
def IPlan (ph pl : Int32) (ps pk : Nat → Int32) (ph' : Int32) (pl' : Int64) (pb pl2 : Nat → Int32) : Prop := (ph = 0 ∧ ph' = -1) ∨ (ph = ph' ∧ 1 ≤ ph.toInt ∧ ph.toInt ≤ 100 ∧ pl = pl'.toInt32 ∧ ∀ i : Nat, (i : Int) < ph.toInt → ps i = pb i ∧ pk i = pl2 i)
def IStore (bx li li' : Int32) (ki he bo bm : Nat → Int32) : Prop := ki = bo ∧ he = bm ∧ li = li' ∧ (∀ j, j < 6 → 0 ≤ (he j).toInt ∧ (he j).toInt ≤ 12) ∧ bx.toInt = (he 0).toInt + (he 1).toInt + (he 2).toInt + (he 3).toInt + (he 4).toInt + (he 5).toInt
def ICrew (pe sp wo sc pe' sp' wo' sc' : Int32) (sk pP pF pT wH wP wS wT sB sW sk' pP' pF' pT' wH' wP' wS' wT' sB' sW' : Nat → Int32) : Prop :=
  (pe = pe' ∧ sp = sp' ∧ wo = wo' ∧ sc = sc') ∧ (sk = sk' ∧ pP = pP' ∧ pF = pF' ∧ pT = pT' ∧ wH = wH' ∧ wP = wP' ∧ wS = wS' ∧ wT = wT' ∧ sB = sB' ∧ sW = sW') ∧
  (0 ≤ pe.toInt ∧ pe.toInt ≤ 14) ∧ (0 ≤ sp.toInt ∧ sp.toInt ≤ 30) ∧ (0 ≤ wo.toInt ∧ wo.toInt ≤ 30) ∧ (0 ≤ sc.toInt ∧ sc.toInt ≤ wo.toInt) ∧
  (∀ i : Nat, (i : Int) < pe.toInt → 0 ≤ (sk i).toInt ∧ (sk i).toInt ≤ 255) ∧
  (∀ i : Nat, (i : Int) < sp.toInt → (0 ≤ (pP i).toInt ∧ (pP i).toInt < pe.toInt) ∧ 0 ≤ (pF i).toInt ∧ (pF i).toInt ≤ (pT i).toInt ∧ (pT i).toInt ≤ 2399) ∧
  (∀ i : Nat, (i : Int) < wo.toInt → (1 ≤ (wH i).toInt ∧ (wH i).toInt ≤ 24) ∧ (1 ≤ (wP i).toInt ∧ (wP i).toInt ≤ 4) ∧ (0 ≤ (wS i).toInt ∧ (wS i).toInt ≤ 255) ∧ (0 ≤ (wT i).toInt ∧ (wT i).toInt ≤ 3))
def ITape (n n' : Int32) (f g : Nat → Int32) : Prop := n = n' ∧ 0 ≤ n.toInt ∧ n.toInt ≤ 400 ∧ ∀ i, (0 ≤ (g i).toInt ∧ (g i).toInt ≤ 255) ∧ f i = (g i).toInt8.toInt32
/-- a book against the reference's rules -/
def IBook (ru te ifs re bo : Int32) (ts ta tn tf ie ir : Nat → Int32) (ru' re' bo' ifs' : Int32) (iF iR tW tL tV tO : Nat → Int32) : Prop :=
  (ru = ru' ∧ re = re' ∧ bo = bo' ∧ ifs = ifs') ∧ (0 ≤ re.toInt ∧ re.toInt ≤ 1000) ∧ (-1000 ≤ bo.toInt ∧ bo.toInt ≤ 0) ∧ (0 ≤ ru.toInt ∧ ru.toInt ≤ 20) ∧
  ∃ (I : Nat) (F : Nat → Nat), I ≤ 20 ∧ ifs = nI I ∧ F 0 = 0 ∧ (∀ k, k ≤ I → iF k = nI (F k) ∧ F k ≤ 60) ∧ (∀ k, k < I → F k ≤ F (k + 1) ∧ ie k = nI (F (k + 1)) ∧ ir k = iR k ∧ 0 ≤ (ir k).toInt ∧ (ir k).toInt ≤ 100) ∧
  ∀ j, j < F I → ((ts j = -13 ∧ tW j = 0) ∨ (ts j = -8 ∧ tW j = 1) ∨ (ts j = -14 ∧ tW j = 2)) ∧ ((ta j = 0 ∧ tL j = 1) ∨ (ta j = 1 ∧ tL j = 0)) ∧ tn j = tV j ∧ (-1000 ≤ (tn j).toInt ∧ (tn j).toInt ≤ 1000) ∧ tf j = tO j ∧ (tf j = 0 ∨ tf j = 1)
/-- how many of the first n messages are all sent -/
def zfin (mS mB : Nat → Int32) : Nat → Nat
  | 0 => 0
  | n + 1 => zfin mS mB n + (if mS n = mB n then 1 else 0)
theorem zfin_c {mS mB mS' mB' : Nat → Int32} : ∀ (n : Nat), (∀ i, i < n → mS i = mS' i ∧ mB i = mB' i) → zfin mS mB n = zfin mS' mB' n
  | 0, _ => rfl
  | n + 1, h => by
    unfold zfin
    rw [zfin_c n (fun i hi => h i (by omega)), (h n (by omega)).1, (h n (by omega)).2]
def IRadio (now rf rl rb me fa se rf' rl' rb' me' fa' se' lo : Int32) (mB mR mS mF mL un fH fK mB' mR' mS' mF' mL' fH' fK' gM gH : Nat → Int32) : Prop :=
  (rf = rf' ∧ rl = rl' ∧ rb = rb' ∧ me = me' ∧ fa = fa' ∧ se = se') ∧ (mB = mB' ∧ mR = mR' ∧ mS = mS' ∧ mF = mF' ∧ mL = mL' ∧ fH = fH' ∧ fK = fK') ∧
  (0 ≤ rf.toInt ∧ rf.toInt ≤ rl.toInt ∧ rl.toInt ≤ 23) ∧ (1 ≤ rb.toInt ∧ rb.toInt ≤ 1000) ∧ (0 ≤ me.toInt ∧ me.toInt ≤ 100) ∧ (0 ≤ fa.toInt ∧ fa.toInt ≤ 60) ∧
  (∀ i : Nat, (i : Int) < fa.toInt → (0 ≤ (fH i).toInt ∧ (fH i).toInt ≤ 2399) ∧ 0 ≤ (fK i).toInt ∧ (fK i).toInt ≤ 100000) ∧
  (∀ m : Nat, (m : Int) < me.toInt → (1 ≤ (mB m).toInt ∧ (mB m).toInt ≤ 10000) ∧ (0 ≤ (mR m).toInt ∧ (mR m).toInt ≤ 3) ∧ (0 ≤ (mS m).toInt ∧ (mS m).toInt ≤ (mB m).toInt) ∧ ((mS m).toInt < (mB m).toInt → mL m = -1) ∧ (mL m).toInt < now.toInt) ∧
  (∀ m : Nat, me.toInt ≤ (m : Int) → m < 100 → mS m = 0) ∧
  (∀ h : Nat, h < 2400 → 0 ≤ (un h).toInt ∧ (un h).toInt ≤ me.toInt ∧ (now.toInt ≤ (h : Int) → un h = 0)) ∧
  ∃ G : Nat, lo = nI G ∧ (G : Int) ≤ now.toInt + (zfin mS mB me.toNatClampNeg : Int) ∧ (∀ g, g < G → (0 ≤ (gM g).toInt ∧ (gM g).toInt < me.toInt) ∧ 0 ≤ (gH g).toInt ∧ (gH g).toInt < now.toInt) ∧
    ∀ m h : Nat, (m : Int) < me.toInt → (h : Int) < now.toInt → ((∃ g, g < G ∧ gM g = nI m ∧ gH g = nI h) ↔ (un h = nI (m + 1) ∨ mL m = nI h))
def Inv (s : Nat → Int32) (a : Nat → Nat → Int32) (w : Bool) (t : Nat → Int32) (b : Nat → Nat → Int32) (u : Nat → Int64) : Prop :=
  IStat (s 0) (s 1) (s 2) (t 2) (t 19) (t 1) ∧ ISky (a 0) (b 0) (b 1) (b 2) ∧ IPow (s 6) (t 7) (s 5) (t 8) (a 4) (b 12) (a 5) (b 13) (a 1) (a 2) (a 3) (b 9) (b 10) (b 11) ∧ IPlan (s 3) (s 4) (a 9) (a 10) (t 9) (u 0) (b 14) (b 15) ∧ IStore (s 7) (s 8) (t 10) (a 11) (a 12) (b 17) (b 18) ∧
  ICrew (s 9) (s 10) (s 11) (s 12) (t 11) (t 12) (t 13) (t 14) (a 13) (a 14) (a 15) (a 16) (a 17) (a 18) (a 19) (a 20) (a 21) (a 22) (b 19) (b 20) (b 21) (b 22) (b 23) (b 24) (b 25) (b 26) (b 27) (b 28) ∧ ITape (s 13) (t 15) (a 23) (b 29) ∧
  (w = false → IBook (s 23) (s 24) (s 25) (s 26) (s 27) (a 34) (a 35) (a 36) (a 37) (a 38) (a 39) (t 3) (t 4) (t 5) (t 6) (b 3) (b 4) (b 5) (b 6) (b 7) (b 8)) ∧ (w = true → IBook (s 28) (s 29) (s 30) (s 31) (s 32) (a 40) (a 41) (a 42) (a 43) (a 44) (a 45) (t 3) (t 4) (t 5) (t 6) (b 3) (b 4) (b 5) (b 6) (b 7) (b 8)) ∧
  IRadio (s 0) (s 17) (s 18) (s 19) (s 20) (s 21) (s 22) (t 26) (t 27) (t 28) (t 29) (t 31) (t 32) (t 30) (a 26) (a 27) (a 28) (a 29) (a 30) (a 31) (a 32) (a 33) (b 36) (b 37) (b 38) (b 39) (b 40) (b 43) (b 44) (b 41) (b 42)
def zPost (r : Option Value) : zQ := fun r' h => ∃ v : Int32, r = some (.int v) ∧ r' = some (.int v) ∧ ∃ (s : Nat → Int32) (a : Nat → Nat → Int32) (w : Bool) (t : Nat → Int32) (b : Nat → Nat → Int32) (u : Nat → Int64) (c : Nat → Nat → Int64), h = HX s a w ++ HM t b u c ∧ Inv s a w t b u
/-- a call of both, from states that go together: the same answer, states that go together -/
def zLaw (jx jm : Nat) (av : List Value) : Prop := ∀ (s : Nat → Int32) (a : Nat → Nat → Int32) (w : Bool) (t : Nat → Int32) (b : Nat → Nat → Int32) (u : Nat → Int64) (c : Nat → Nat → Int64), Inv s a w t b u → zG 12 jx (.ref 0 :: av) (HX s a w ++ HM t b u c) (fun r h => zG 12 jm (.ref 56 :: av) h (zPost r))
theorem L_status : zLaw 104 157 [] := by
  intro s a w t b u c hI
  refine x_status (d := 11) ?_
  refine y_status (d := 11) ?_
  exact ⟨_, rfl, congrArg (fun z => some (Value.int z)) hI.1.2.2.1.symm, _, _, _, _, _, _, _, rfl, hI⟩
theorem L_fault : zLaw 95 146 [] := by
  intro s a w t b u c hI
  refine x_fault (d := 11) ?_
  refine y_fault (d := 11) ?_
  exact ⟨_, rfl, congrArg (fun z => some (Value.int z)) hI.1.2.1.symm, _, _, _, _, _, _, _, rfl, hI⟩
