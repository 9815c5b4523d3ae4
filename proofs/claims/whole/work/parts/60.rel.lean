/-! ===== the two together ===== -/
/-- the class's caches: stale, or right -/
def CVk (A : Nat → Nat) (cc bw dn lea mos : Int32) (chg fir cat sta : Nat → Int32) (bc bcn : Int32) (pl tim spd cnt : Nat → Int32) : Prop :=
  DV A cc bw dn lea mos chg fir cat sta ∧ (bc = oI (pco A) ∧ PV A bc pl) ∧ bcn = nI (A 6 - 1) ∧ (∀ b, b + 1 < A 6 → tim b = nI (sp A (b + 1))) ∧ TV A spd cnt
def CV (A : Nat → Nat) (stl cc bw dn lea mos : Int32) (chg fir cat sta : Nat → Int32) (bc bcn : Int32) (pl tim spd cnt : Nat → Int32) : Prop :=
  stl = nI 1 ∨ (stl = nI 0 ∧ CVk A cc bw dn lea mos chg fir cat sta bc bcn pl tim spd cnt)
def REL (sc wc : Int32) (ord dur pau siz wor : Nat → Int32) (nam : Nat → Int64) (ns : Int32) (wi le re : Nat → Int32) (ex kn kt : Int32) (kr ks kd set : Nat → Int32) (stl cc bw dn lea mos : Int32) (chg fir cat sta : Nat → Int32) (bc bcn : Int32) (pl tim spd cnt : Nat → Int32) (hsz hol : Int32) (HI : Nat → gq_SH) (bl : Int32) (text : Nat → Int32) (ea pn : Int32) (pb : Nat → Int32) (a : Nat → Int64) (km : Int32) (kp : Nat → Int64) (bn : Int32) (buf : Nat → Int32) (qe wn : Int32) (wb : Nat → Int32) (tc tl : Int32) : Prop :=
  ∃ (A : Nat → Nat) (H : Nat → Nat → Nat) (m : Nat) (T : Nat → Nat) (b : Nat) (L : List Nat),
    (VA A ∧ TR A sc wc ord dur pau siz wor nam ∧ QR A ns wi le re ∧ KR A ex kn kt kr ks kd ∧ SR A set) ∧
    CV A stl cc bw dn lea mos chg fir cat sta bc bcn pl tim spd cnt ∧
    HR H m hsz hol HI ∧ (bl = nI b ∧ TX T b text) ∧ (PG L pn pb ∧ L.length ≤ 1056) ∧
    MR A a ∧ KK H m km kp ∧ (bn = nI b ∧ TX T b buf) ∧ qe = ea ∧ PG L wn wb ∧ tc = -nI 1 ∧ tl = -nI 1
def OU (l : List (Nat × Nat)) (res : Nat ⊕ Int32) (th r : Int32) : Prop :=
  match res with
  | .inr v => th = nI 0 ∧ r = v
  | .inl c => ∃ e, (c, e) ∈ l ∧ th = nI e
/-! the class asks whether a number is in its range -/
theorem rq_at {x : Int32} (h : 0 ≤ x.toInt) : ∃ s, x = nI s ∧ (s : Int) = x.toInt ∧ s < 2 ^ 31 := by
  have h2 : x.toInt < 2 ^ 31 := Int32.toInt_lt x
  refine ⟨x.toInt.toNat, ?_, by omega, by omega⟩
  apply Int32.toInt_inj.mp
  rw [nI_toInt (by omega)]
  omega
theorem rq_lt (x : Int32) : (x < (0 : Int32)) ↔ x.toInt < 0 := Int32.lt_iff_toInt_lt
theorem rq_ltn (x : Int32) {n : Nat} (h : n < 2 ^ 31) : (x < nI n) ↔ x.toInt < n := by rw [Int32.lt_iff_toInt_lt, nI_toInt h]
theorem p_rqSeg (x : Int32) {n : Nat} (h : n < 2 ^ 31) : (∃ s, s < n ∧ x = nI s ∧ F_X10_requireSegment x (nI n) = some (.inr ())) ∨ (¬ (0 ≤ x.toInt ∧ x.toInt < n) ∧ F_X10_requireSegment x (nI n) = some (.inl 3)) := by
  unfold F_X10_requireSegment
  by_cases c : x < (0 : Int32)
  · rw [if_pos c]
    exact Or.inr ⟨fun h9 => by have := (rq_lt x).mp c; omega, rfl⟩
  · rw [if_neg c]
    have c0 : ¬ x.toInt < 0 := fun h9 => c ((rq_lt x).mpr h9)
    by_cases c2 : x < nI n
    · rw [if_pos c2]
      obtain ⟨s, e1, e2, e3⟩ := rq_at (x := x) (by omega)
      have := (rq_ltn x h).mp c2
      exact Or.inl ⟨s, by omega, e1, rfl⟩
    · rw [if_neg c2]
      exact Or.inr ⟨fun h9 => c2 ((rq_ltn x h).mpr h9.2), rfl⟩
theorem p_rqWord (x : Int32) {n : Nat} (h : n < 2 ^ 31) : (∃ s, s < n ∧ x = nI s ∧ F_X10_requireWord x (nI n) = some (.inr ())) ∨ (¬ (0 ≤ x.toInt ∧ x.toInt < n) ∧ F_X10_requireWord x (nI n) = some (.inl 3)) := p_rqSeg x h
theorem p_rqSlot (x : Int32) {n : Nat} (h : n < 2 ^ 31) : (∃ s, s < n ∧ x = nI s ∧ F_X10_requireSlot x (nI n) = some (.inr ())) ∨ (¬ (0 ≤ x.toInt ∧ x.toInt < n) ∧ F_X10_requireSlot x (nI n) = some (.inl 3)) := p_rqSeg x h
theorem p_rqChap (x : Int32) {n : Nat} (h : n < 2 ^ 31) : (∃ s, s < n ∧ x = nI s ∧ F_X10_requireChapter x (nI n) = some (.inr ())) ∨ (¬ (0 ≤ x.toInt ∧ x.toInt < n) ∧ F_X10_requireChapter x (nI n) = some (.inl 3)) := p_rqSeg x h
theorem p_rqSet (x : Int32) : (∃ s, s < 6 ∧ x = nI s ∧ F_X10_requireSetting x = some (.inr ())) ∨ (¬ (0 ≤ x.toInt ∧ x.toInt < (6 : Nat)) ∧ F_X10_requireSetting x = some (.inl 3)) := p_rqSeg x (n := 6) (by omega)
theorem p_rqRange (x : Int32) {lo hi : Nat} (h1 : lo < 2 ^ 31) (h2 : hi < 2 ^ 31) : (∃ s, lo ≤ s ∧ s ≤ hi ∧ x = nI s ∧ F_X10_requireRange x (nI lo) (nI hi) = some (.inr ())) ∨ (¬ ((lo : Int) ≤ x.toInt ∧ x.toInt ≤ hi) ∧ F_X10_requireRange x (nI lo) (nI hi) = some (.inl 2)) := by
  unfold F_X10_requireRange
  by_cases c : x < nI lo
  · rw [if_pos c]
    exact Or.inr ⟨fun h9 => by have := (rq_ltn x h1).mp c; omega, rfl⟩
  · rw [if_neg c]
    have c0 : ¬ x.toInt < lo := fun h9 => c ((rq_ltn x h1).mpr h9)
    have c3 : x ≤ nI hi ↔ x.toInt ≤ hi := by rw [Int32.le_iff_toInt_le, nI_toInt h2]
    by_cases c2 : x ≤ nI hi
    · rw [if_pos c2]
      obtain ⟨s, e1, e2, e3⟩ := rq_at (x := x) (by omega)
      have := c3.mp c2
      exact Or.inl ⟨s, by omega, by omega, e1, rfl⟩
    · rw [if_neg c2]
      exact Or.inr ⟨fun h9 => c2 (c3.mpr h9.2), rfl⟩
section
variable {A : Nat → Nat} {sc : Int32} {wc : Int32} {ord : Nat → Int32} {dur : Nat → Int32} {pau : Nat → Int32} {siz : Nat → Int32} {wor : Nat → Int32} {nam : Nat → Int64} {ns : Int32} {wi : Nat → Int32} {le : Nat → Int32} {re : Nat → Int32} {ex : Int32} {kn : Int32} {kt : Int32} {kr : Nat → Int32} {ks : Nat → Int32} {kd : Nat → Int32} {set : Nat → Int32} {stl : Int32} {cc : Int32} {bw : Int32} {dn : Int32} {lea : Int32} {mos : Int32} {chg : Nat → Int32} {fir : Nat → Int32} {cat : Nat → Int32} {sta : Nat → Int32} {bc : Int32} {bcn : Int32} {pl : Nat → Int32} {tim : Nat → Int32} {spd : Nat → Int32} {cnt : Nat → Int32} {hsz : Int32} {hol : Int32} {HI : Nat → gq_SH} {bl : Int32} {text : Nat → Int32} {ea : Int32} {pn : Int32} {pb : Nat → Int32} {a : Nat → Int64} {km : Int32} {kp : Nat → Int64} {bn : Int32} {buf : Nat → Int32} {qe : Int32} {wn : Int32} {wb : Nat → Int32} {tc : Int32} {tl : Int32} {wrt : Nat → Int32} {cuc : Nat → Int32} {las : Nat → Int32} {lef : Nat → Int32} {rig : Nat → Int32} {cos : Nat → Int32} {cut : Nat → Int32} {th : Int32} {W : Nat → Int32} {C : Nat → Int32} {E : Nat → Int32} {G : Nat → Int32} {Y : Nat → Int64} {qco : Nat → Int32} {qpl : Nat → Int32} {qcu : Nat → Int32}
/-- the caches are made right -/
theorem p_refresh (hV : VA A) (hT : TR A sc wc ord dur pau siz wor nam) (hQ : QR A ns wi le re) (hS : SR A set) (hC : CV A stl cc bw dn lea mos chg fir cat sta bc bcn pl tim spd cnt) : ∃ stl' cc' bw' dn' lea' mos' chg' fir' cat' wrt' cuc' las' sta' lef' rig' bc' bcn' pl' cos' tim' cut' spd' cnt', F_X10_refresh stl sc ord dur pau siz wor ns wi re set cc bw dn lea mos chg fir cat wrt cuc las sta lef rig bc bcn pl cos tim cut spd cnt = some (stl', cc', bw', dn', lea', mos', chg', fir', cat', wrt', cuc', las', sta', lef', rig', bc', bcn', pl', cos', tim', cut', spd', cnt') ∧ stl' = nI 0 ∧ CVk A cc' bw' dn' lea' mos' chg' fir' cat' sta' bc' bcn' pl' tim' spd' cnt' := by
  unfold F_X10_refresh
  rcases hC with hC | ⟨hC, hk⟩
  · subst hC
    rw [if_neg (show ¬ nI 1 = (0 : Int32) by decide)]
    obtain ⟨cc', bw', chg', fir', cat', W', C', L', st', lef', rig', f1, f2⟩ := p_update hV hT hS (cc := cc) (bw := bw) (n0' := dn) (le := lea) (mo := mos) (chg := chg) (fir := fir) (cat := cat) (W := wrt) (C := cuc) (L := las) (st := sta) (lef := lef) (rig := rig)
    obtain ⟨pl', cos', tim', cut', f3, f4, f5⟩ := p_placeUpdate hV hT hS hQ f2.2.2.2.2.1 f2.2.2.2.2.2 (bc := bc) (n0' := bcn) (pl := pl) (cos := cos) (tim0 := tim) (cut0 := cut)
    obtain ⟨spd', cnt', f6, f7⟩ := p_titlesUpdate hV hT f2.2.2.2.2.2 (spd := spd) (cnt := cnt)
    rw [f1, ob14_s rfl, f3, ob6_some, f6, ob2_some]
    exact ⟨_, _, _, _, _, _, _, _, _, _, _, _, _, _, _, _, _, _, _, _, _, _, _, rfl, rfl, f2, ⟨rfl, f4⟩, rfl, f5, f7⟩
  · subst hC
    rw [if_pos (show nI 0 = (0 : Int32) from rfl)]
    exact ⟨_, _, _, _, _, _, _, _, _, _, _, _, _, _, _, _, _, _, _, _, _, _, _, rfl, rfl, hk⟩
/-- and a division is asked for -/
theorem p_reqDiv (hV : VA A) (hT : TR A sc wc ord dur pau siz wor nam) (hQ : QR A ns wi le re) (hS : SR A set) (hC : CV A stl cc bw dn lea mos chg fir cat sta bc bcn pl tim spd cnt) : ∃ stl' cc' bw' dn' lea' mos' chg' fir' cat' wrt' cuc' las' sta' lef' rig' bc' bcn' pl' cos' tim' cut' spd' cnt', (F_X10_requireDivision stl sc ord dur pau siz wor ns wi re set cc bw dn lea mos chg fir cat wrt cuc las sta lef rig bc bcn pl cos tim cut spd cnt = some (if (tbl A 0).isSome = true then .inr () else .inl 4, stl', cc', bw', dn', lea', mos', chg', fir', cat', wrt', cuc', las', sta', lef', rig', bc', bcn', pl', cos', tim', cut', spd', cnt')) ∧ stl' = nI 0 ∧ CVk A cc' bw' dn' lea' mos' chg' fir' cat' sta' bc' bcn' pl' tim' spd' cnt' := by
  obtain ⟨stl', cc', bw', dn', lea', mos', chg', fir', cat', wrt', cuc', las', sta', lef', rig', bc', bcn', pl', cos', tim', cut', spd', cnt', f1, f2, f3⟩ := p_refresh hV hT hQ hS hC (wrt := wrt) (cuc := cuc) (las := las) (lef := lef) (rig := rig) (cos := cos) (cut := cut)
  refine ⟨stl', cc', bw', dn', lea', mos', chg', fir', cat', wrt', cuc', las', sta', lef', rig', bc', bcn', pl', cos', tim', cut', spd', cnt', ?_, f2, f3⟩
  have hn := hV.n
  unfold F_X10_requireDivision
  rw [f1, ob23_s rfl]
  have hD := f3.1.2.2.2.2.2
  unfold DB at hD
  cases hx : tbl A 0 with
  | none =>
    rw [hx] at hD
    have hD : cc' = nI 0 := hD
    rw [if_pos (show cc' = (0 : Int32) from hD), if_neg (show ¬ (none : Option (Int × Nat × Nat)).isSome = true from Bool.false_ne_true)]
  | some x =>
    rw [hx] at hD
    have hD : cc' = nI (x.2.1 + 1) := hD.1
    have hK := (tbl_cht hx).K
    rw [if_neg (show ¬ cc' = (0 : Int32) from fun h => by rw [hD] at h; have := (nI_eq (b := 0) (by omega) (by omega)).mp h; omega), if_pos (show (some x : Option (Int × Nat × Nat)).isSome = true from rfl)]
end
