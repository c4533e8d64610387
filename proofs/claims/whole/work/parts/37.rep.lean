/-! THE STATE that both sides hold, and how each holds it -/
/-- keys or digests of a zone: number, since -/
abbrev zK : Type := List (Int32 × Int32)
def kg (l : zK) (i : Nat) : Int32 × Int32 := l.getD i (0, 0)
/-- a cache's entry: zone, kind, three keys, till -/
abbrev zE : Type := Nat × Int32 × (Int32 × Int32 × Int32) × Int64
def eg (l : List zE) (i : Nat) : zE := l.getD i (0, 0, (0, 0, 0), 0)
def e3 (q : Int32 × Int32 × Int32) : Nat → Int32
  | 0 => q.1
  | 1 => q.2.1
  | _ => q.2.2
/-- records, keys, digests, active, clock, cache -/
abbrev zW : Type := zR × (Nat → zK) × (Nat → zK) × (Nat → Int32) × Int32 × List zE
/-- an item: kind, zone, owner, next, sort, numbers, signer, mark -/
abbrev zI : Type := Int32 × Nat × Nat × Nat × Nat × (Int32 × Int32 × Int32) × Int32 × Int32
def ig (l : List zI) (i : Nat) : zI := l.getD i (0, 0, 0, 0, 0, (0, 0, 0), 0, 0)
/-- a proof: items, name, sort, zone, clock -/
abbrev zP : Type := List zI × Nat × Nat × Nat × Int32
/-- the tape, the fault, the zones, the world, the name, the proof, the check (value, zone, entries), the images -/
abbrev zS : Type := (Nat × (Nat → Nat)) × Int32 × zT × zW × Nat × Option zP × Option (Int32 × Nat × Int32) × Option zW × Option zW
def wOK (t : zT) (W : zW) : Prop := rOK W.1 ∧ (∀ z, z < 4 → (W.2.1 z).length ≤ 3) ∧ (∀ z, z < 4 → (W.2.2.1 z).length ≤ 2) ∧ (∀ z, z < t.1 → t.2.2.1 z = true → 0 < W.2.2.2.1 z) ∧ W.2.2.2.2.2.length ≤ 4 ∧ (∀ q ∈ W.2.2.2.2.2, q.1 < t.1)
def iOK (t : zT) (q : zI) : Prop := q.2.1 < t.1 ∧ vn q.2.2.1 ∧ vn q.2.2.2.1 ∧ q.2.2.2.2.1 < 64 ∧ 0 < q.2.2.2.2.2.2.1
def pOK (t : zT) (p : zP) : Prop := p.1.length ≤ 10 ∧ (∀ q ∈ p.1, iOK t q) ∧ vn p.2.1 ∧ p.2.2.1 < 3 ∧ p.2.2.2.1 = zof t p.2.1
def sOK (s : zS) : Prop := (s.1.1 ≤ 200 ∧ ∀ k, k < s.1.1 → s.1.2 k < 128) ∧ zOK s.2.2.1 ∧ wOK s.2.2.1 s.2.2.2.1 ∧ vn s.2.2.2.2.1 ∧ (∀ p, s.2.2.2.2.2.1 = some p → pOK s.2.2.1 p) ∧ (∀ W, s.2.2.2.2.2.2.2.1 = some W → wOK s.2.2.1 W) ∧ (∀ W, s.2.2.2.2.2.2.2.2 = some W → wOK s.2.2.1 W)
/-! the class's side -/
def cK (cn : Int32) (nu si : Nat → Int32) (l : zK) : Prop := cn = nI l.length ∧ (nu 0 = (kg l 0).1 ∧ nu 1 = (kg l 1).1 ∧ nu 2 = (kg l 2).1) ∧ (si 0 = (kg l 0).2 ∧ si 1 = (kg l 1).2 ∧ si 2 = (kg l 2).2)
def ksel (k0 k1 k2 k3 : Nat → Int32) : Nat → Nat → Int32
  | 0 => k0
  | 1 => k1
  | 2 => k2
  | _ => k3
def cE (cn : Int32) (zs ks : Nat → Int32) (js : Nat → Int64) (kr : Nat → Nat → Int32) (l : List zE) : Prop := cn = nI l.length ∧ ∀ i, i < l.length → zs i = nI (eg l i).1 ∧ ks i = (eg l i).2.1 ∧ js i = (eg l i).2.2.2 ∧ (kr i 0 = (eg l i).2.2.1.1 ∧ kr i 1 = (eg l i).2.2.1.2.1 ∧ kr i 2 = (eg l i).2.2.1.2.2)
def cW (b : Nat) (I : Nat → Nat → Int32) (J : Nat → Nat → Int64) (W : zW) : Prop :=
  cR (I (b + 1) 3) (J (b + 2)) (I (b + 3)) (I (b + 4)) W.1 ∧
  (cK (I (b + 17) 2) (I (b + 18)) (I (b + 19)) (W.2.1 0) ∧ cK (I (b + 23) 2) (I (b + 24)) (I (b + 25)) (W.2.1 1) ∧ cK (I (b + 29) 2) (I (b + 30)) (I (b + 31)) (W.2.1 2) ∧ cK (I (b + 35) 2) (I (b + 36)) (I (b + 37)) (W.2.1 3)) ∧
  (cK (I (b + 20) 2) (I (b + 21)) (I (b + 22)) (W.2.2.1 0) ∧ cK (I (b + 26) 2) (I (b + 27)) (I (b + 28)) (W.2.2.1 1) ∧ cK (I (b + 32) 2) (I (b + 33)) (I (b + 34)) (W.2.2.1 2) ∧ cK (I (b + 38) 2) (I (b + 39)) (I (b + 40)) (W.2.2.1 3)) ∧
  (I (b + 7) 0 = W.2.2.2.1 0 ∧ I (b + 7) 1 = W.2.2.2.1 1 ∧ I (b + 7) 2 = W.2.2.2.1 2 ∧ I (b + 7) 3 = W.2.2.2.1 3) ∧
  I b 5 = W.2.2.2.2.1 ∧
  cE (I (b + 8) 4) (I (b + 9)) (I (b + 10)) (J (b + 11)) (ksel (I (b + 13)) (I (b + 14)) (I (b + 15)) (I (b + 16))) W.2.2.2.2.2
/-- the class's items by where they lie: fields, numbers, names -/
def iF (I : Nat → Nat → Int32) : Nat → Nat → Int32
  | 0 => I 147 | 1 => I 149 | 2 => I 151 | 3 => I 153 | 4 => I 155 | 5 => I 157 | 6 => I 159 | 7 => I 161 | 8 => I 163 | _ => I 165
def iN (I : Nat → Nat → Int32) : Nat → Nat → Int32
  | 0 => I 148 | 1 => I 150 | 2 => I 152 | 3 => I 154 | 4 => I 156 | 5 => I 158 | 6 => I 160 | 7 => I 162 | 8 => I 164 | _ => I 166
def iJ (J : Nat → Nat → Int64) : Nat → Nat → Int64
  | 0 => J 147 | 1 => J 149 | 2 => J 151 | 3 => J 153 | 4 => J 155 | 5 => J 157 | 6 => J 159 | 7 => J 161 | 8 => J 163 | _ => J 165
def cI (f : Nat → Int32) (nu : Nat → Int32) (js : Nat → Int64) (q : zI) : Prop := (f 0 = q.1 ∧ f 1 = nI q.2.1 ∧ f 4 = nI q.2.2.2.2.1 ∧ f 6 = q.2.2.2.2.2.2.1 ∧ f 7 = q.2.2.2.2.2.2.2) ∧ (js 2 = lN q.2.2.1 ∧ js 3 = lN q.2.2.2.1) ∧ (nu 0 = q.2.2.2.2.2.1.1 ∧ nu 1 = q.2.2.2.2.2.1.2.1 ∧ nu 2 = q.2.2.2.2.2.1.2.2)
/-- the order of the items: a rearrangement -/
def pP (P : Nat → Nat) : Prop := ∃ p : Nat → Nat, (∀ k, k < 10 → p k < 10 ∧ P k = 147 + 2 * p k) ∧ ∀ i j, i < 10 → j < 10 → p i = p j → i = j
def cP (I : Nat → Nat → Int32) (J : Nat → Nat → Int64) (P : Nat → Nat) (pr : zP) : Prop := I 145 1 = nI pr.1.length ∧ J 145 3 = lN pr.2.1 ∧ I 145 4 = nI pr.2.2.1 ∧ I 145 5 = nI pr.2.2.2.1 ∧ I 145 6 = pr.2.2.2.2 ∧ ∀ k, k < pr.1.length → ∀ j, j < 10 → P k = 147 + 2 * j → cI (iF I j) (iN I j) (iJ J j) (ig pr.1 k)
def cTp (ln : Int32) (r : Nat → Int32) (tp : Nat × (Nat → Nat)) : Prop := ln = nI tp.1 ∧ ∀ k, k < tp.1 → r k = nI (tp.2 k)
def cTr (I : Nat → Nat → Int32) (J : Nat → Nat → Int64) (t : zT) : Prop := cT0 (I 12 4) (J 13) (I 14) (I 15) t ∧ I 12 5 = nI t.2.2.2 ∧ ∀ z, z < t.1 → I 16 z = zpI t z
def cIm (k : Int32) (b : Nat) (I : Nat → Nat → Int32) (J : Nat → Nat → Int64) (o : Option zW) : Prop := k = bI o.isSome ∧ ∀ W, o = some W → cW b I J W
def cPr (I : Nat → Nat → Int32) (J : Nat → Nat → Int64) (P : Nat → Nat) (o : Option zP) : Prop := I 145 2 = bI o.isSome ∧ ∀ pr, o = some pr → cP I J P pr
def cCh (ran va en ca : Int32) (o : Option (Int32 × Nat × Int32)) : Prop := ran = bI o.isSome ∧ ∀ q, o = some q → va = q.1 ∧ en = nI q.2.1 ∧ ca = q.2.2
def RC (s : zS) (I : Nat → Nat → Int32) (J : Nat → Nat → Int64) (P : Nat → Nat) : Prop :=
  cTp (I 1 1) (I 2) s.1 ∧ I 1 4 = s.2.1 ∧ cTr I J s.2.2.1 ∧ cW 17 I J s.2.2.2.1 ∧ J 0 8 = lN s.2.2.2.2.1 ∧ cPr I J P s.2.2.2.2.2.1 ∧
  cCh (I 167 0) (I 167 1) (I 167 2) (I 167 3) s.2.2.2.2.2.2.1 ∧ cIm (I 141 0) 59 I J s.2.2.2.2.2.2.2.1 ∧ cIm (I 141 1) 100 I J s.2.2.2.2.2.2.2.2 ∧ (∀ z, z < 4 → I 6 z = 0 ∨ I 6 z = 1) ∧ pP P
/-! the reference's side -/
def mRp (cn : Int32) (jn : Nat → Int64) (is iv : Nat → Int32) (l : zR) : Prop := ∃ lm : zR, lm.Perm l ∧ mR cn jn is iv lm
def mKs (f : Nat) (mn ks ss : Nat → Int32) (l : Nat → zK) : Prop := ∀ z, z < 4 → mn z = nI (l z).length ∧ ∀ i, i < (l z).length → ks (f * z + i) = (kg (l z) i).1 ∧ ss (f * z + i) = (kg (l z) i).2
def mAc (r : Nat → Int32) (t : zT) (ac : Nat → Int32) : Prop := ∀ z, z < t.1 → r z = if t.2.2.1 z = true then ac z else -4
def mE (cn : Int32) (zs ks : Nat → Int32) (js : Nat → Int64) (kr : Nat → Int32) (l : List zE) : Prop := cn = nI l.length ∧ ∀ i, i < l.length → zs i = nI (eg l i).1 ∧ ks i = (eg l i).2.1 ∧ js i = (eg l i).2.2.2 ∧ (kr (3 * i) = (eg l i).2.2.1.1 ∧ kr (3 * i + 1) = (eg l i).2.2.1.2.1 ∧ kr (3 * i + 2) = (eg l i).2.2.1.2.2)
def mW (rc ck ec : Int32) (jn : Nat → Int64) (so va ks ss km ac ds dd dm ez ek ey : Nat → Int32) (jt : Nat → Int64) (t : zT) (W : zW) : Prop :=
  mRp rc jn so va W.1 ∧ mKs 3 km ks ss W.2.1 ∧ mKs 2 dm ds dd W.2.2.1 ∧ mAc ac t W.2.2.2.1 ∧ ck = W.2.2.2.2.1 ∧ mE ec ez ek jt ey W.2.2.2.2.2
def mI (k : Nat) (kd zn so nu sg mk : Nat → Int32) (jo jx : Nat → Int64) (q : zI) : Prop := (kd k = q.1 ∧ zn k = nI q.2.1 ∧ so k = nI q.2.2.2.2.1 ∧ sg k = q.2.2.2.2.2.2.1 ∧ mk k = q.2.2.2.2.2.2.2) ∧ (jo k = lN (mo q.2.2.1) ∧ jx k = lN (mo q.2.2.2.1)) ∧ (nu (3 * k) = q.2.2.2.2.2.1.1 ∧ nu (3 * k + 1) = q.2.2.2.2.2.1.2.1 ∧ nu (3 * k + 2) = q.2.2.2.2.2.1.2.2)
def mP (ct ck so : Int32) (nm : Int64) (kd zn os nu sg mk : Nat → Int32) (jo jx : Nat → Int64) (pr : zP) : Prop := ct = nI pr.1.length ∧ nm = lN (mo pr.2.1) ∧ so = nI pr.2.2.1 ∧ ck = pr.2.2.2.2 ∧ ∀ k, k < pr.1.length → mI k kd zn os nu sg mk jo jx (ig pr.1 k)
def mPr (fl ct ck so : Int32) (nm : Int64) (kd zn os nu sg mk : Nat → Int32) (jo jx : Nat → Int64) (o : Option zP) : Prop := fl = bI o.isSome ∧ ∀ pr, o = some pr → mP ct ck so nm kd zn os nu sg mk jo jx pr
/-- an image, in the rows where it is kept -/
def mIm (fl : Int32) (jn jt : Nat → Int64) (r : Nat → Int32) (k : Nat) (t : zT) (o : Option zW) : Prop := fl = bI o.isSome ∧ ∀ W, o = some W → mW (r (130 * k + 127)) (r (130 * k + 128)) (r (130 * k + 129)) (fun i => jn (25 * k + i)) (fun i => r (130 * k + i)) (fun i => r (130 * k + (25 + i))) (fun i => r (130 * k + (50 + i))) (fun i => r (130 * k + (62 + i))) (fun i => r (130 * k + (74 + i))) (fun i => r (130 * k + (78 + i))) (fun i => r (130 * k + (82 + i))) (fun i => r (130 * k + (90 + i))) (fun i => r (130 * k + (98 + i))) (fun i => r (130 * k + (102 + i))) (fun i => r (130 * k + (107 + i))) (fun i => r (130 * k + (112 + i))) (fun i => jt (5 * k + i)) t W
def cLit (r r2 : Nat → Int32) : Prop := (r 0 = 0 ∧ r 1 = 4 ∧ r 2 = 9 ∧ r 3 = 12 ∧ r 4 = 16) ∧ (∀ k, k < 16 → r2 k = nI ([122, 111, 110, 101, 112, 108, 97, 105, 110, 114, 101, 99, 115, 112, 97, 110].getD k 0))
def RM (s : zS) (I : Nat → Nat → Int32) (J : Nat → Nat → Int64) : Prop :=
  cTp (I 171 18) (I 184) s.1 ∧ I 171 19 = s.2.1 ∧ mT (I 171 2) (J 172) (I 173) s.2.2.1 ∧ I 171 3 = nI s.2.2.1.2.2.2 ∧
  mW (I 171 7) (I 171 15) (I 171 56) (J 174) (I 175) (I 176) (I 177) (I 178) (I 179) (I 180) (I 181) (I 182) (I 183) (I 202) (I 203) (I 204) (J 205) s.2.2.1 s.2.2.2.1 ∧
  J 171 16 = lN (mo s.2.2.2.2.1) ∧ mPr (I 171 46) (I 171 45) (I 171 47) (I 171 49) (J 171 48) (I 193) (I 194) (I 197) (I 198) (I 199) (I 200) (J 195) (J 196) s.2.2.2.2.2.1 ∧
  cCh (I 171 57) (I 171 58) (I 171 59) (I 171 60) s.2.2.2.2.2.2.1 ∧ mIm (I 209 0) (J 210) (J 211) (I 212) 0 s.2.2.1 s.2.2.2.2.2.2.2.1 ∧ mIm (I 209 1) (J 210) (J 211) (I 212) 1 s.2.2.1 s.2.2.2.2.2.2.2.2 ∧
  (∀ z, z < 4 → I 188 z = 0 ∨ I 188 z = 1) ∧ cLit (I 185) (I 186)
/-- behind a call of the class -/
def pC (s : zS) (Sp : Int32 → zS → Prop) : Option Value → gW → Prop := fun r u => ∃ (x : Int32) (s' : zS) (I' : Nat → Nat → Int32) (J' : Nat → Nat → Int64) (P' : Nat → Nat), u = gST I' J' P' ∧ r = some (.int x) ∧ (Sp x s' ∧ sOK s') ∧ RC s' I' J' P' ∧ RM s I' J'
/-- behind the same call of the reference -/
def pM (x : Int32) (s' : zS) : Option Value → gW → Prop := fun r u => ∃ (I' : Nat → Nat → Int32) (J' : Nat → Nat → Int64) (P' : Nat → Nat), u = gST I' J' P' ∧ r = some (.int x) ∧ RC s' I' J' P' ∧ RM s' I' J'
