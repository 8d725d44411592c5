import JvmDerived
import JvmDerived.Pilot.CBankKeeperLaw_law_r4215_47b219Statement
import JvmDerived.Pilot.CBankKeeperLaw_law_r4215_47b219M20
import JvmDerived.Pilot.CBankKeeperLaw_law_r4215_47b219M33
/-! A refutation of p11's statement: a start that its premises allow, at which the law throws.
    The witness's start, but the static array's class is another class record: an array class over int whose clone() throws the array itself. -/
open Lean Elab Tactic Meta in
elab "krfl" : tactic => do
  let g ← getMainGoal
  let t ← instantiateMVars (← g.getType)
  let .app (.app (.app (.const ``Eq us) α) a) _ := t | throwError "not an equality"
  g.assign (mkApp2 (mkConst ``Eq.refl us) α a)
namespace Jvm.Pilot.CBankKeeperLaw_law_r4215_47b219
open Jvm Jvm.ClassFile Sem Op Jvm.Lib Jvm.Free Jvm.Stand Jvm.Pilot.CBankKeeperLaw_law_r4215_47b219.Jvm.D
open start1
set_option maxRecDepth 100000
/-- another array class over int; its clone() throws the array itself -/
def oddClass : Class := { cArr "odd" 14 .int with methods := #[Lib.HandJ.method "clone" "()Ljava/lang/Object;" [] (some (.object "java/lang/Object")) 0x1 1 ⟨#[0x2a, 0xbf]⟩] }
def odd : State :=
  { aboutOf #[] with vm := { (aboutOf #[]).vm with classes := (aboutOf #[]).vm.classes.push oddClass }, heap := (aboutOf #[]).heap.modify 2 fun c => { c with cls := 21 } }
theorem o_code : (Cond.code x code maxLocals ret).before args0 odd = true := by decide +kernel
theorem o_1 : tables_1_1.all (fun c => c.before args0 odd) = true := by decide +kernel
theorem o_2 : tables_1_2.all (fun c => c.before args0 odd) = true := by decide +kernel
theorem o_3 : tables_1_3.all (fun c => c.before args0 odd) = true := by decide +kernel
theorem o_4 : tables_1_4.all (fun c => c.before args0 odd) = true := by decide +kernel
theorem o_words : ∀ c ∈ (Cond.code x code maxLocals ret :: tables_1), c.before args0 odd = true := by
  intro c hc
  rcases List.mem_cons.mp hc with h | h
  · rw [h]; exact o_code
  · have h1 : c ∈ tables_1_1 ++ (tables_1_2 ++ (tables_1_3 ++ tables_1_4)) := h
    rcases List.mem_append.mp h1 with h2 | h1
    · exact List.all_eq_true.mp o_1 c h2
    rcases List.mem_append.mp h1 with h2 | h1
    · exact List.all_eq_true.mp o_2 c h2
    rcases List.mem_append.mp h1 with h2 | h1
    · exact List.all_eq_true.mp o_3 c h2
    exact List.all_eq_true.mp o_4 c h1
theorem o_start : AtStart classFile x code maxLocals ret World_1 tables_1 room_1 Calls_1 rest_1 Pre_1 launch0 p0 e0 odd ⟨0, 0⟩ args0 Lib.HandBits.below0 :=
  ⟨lists_1, trivial, launch0.admits_env _ _ _, launch0.least_env, fairChoices_fair.cas, fairChoices_fair.clock, rfl, by decide +kernel, by decide +kernel,
    (Spec.applies_iff rfl).mpr ⟨rfl, rfl, rfl, by decide +kernel, by decide +kernel, by decide +kernel, launch0.hasRoom_least _ room_1 (by decide +kernel) (by decide +kernel) (by decide +kernel) (by decide +kernel) (by decide +kernel) (by decide +kernel), atoms_intro o_words⟩,
    trivial, (show rest_1_c.before args0 odd = true by decide +kernel), (show (Cond.and given_1 narrow_1).before args0 odd = true by decide +kernel)⟩
def isB : Frame → Bool
  | .native ⟨⟨0, 0⟩, ⟨[]⟩, 0, ⟨[]⟩, false, none, none, 0⟩ => true
  | _ => false
theorem isB_eq {f : Frame} (h : isB f = true) : [f] = Lib.HandBits.below0 := by
  unfold isB at h
  split at h
  · rfl
  · cases h
def lastB : List Frame → Bool
  | [] => false
  | [b] => isB b
  | _ :: f :: r => lastB (f :: r)
theorem lastB_eq : ∀ (fs : List Frame), lastB fs = true → fs = fs.dropLast ++ Lib.HandBits.below0
  | [], h => by cases h
  | [b], h => by
    rw [lastB] at h
    exact isB_eq h
  | g :: f :: r, h => by
    rw [lastB] at h
    have := lastB_eq (f :: r) h
    rw [List.dropLast_cons_cons, List.cons_append, ← this]
def isT : List Frame → Bool
  | [.throwing _, _] => true
  | _ => false
def inside (s : State) : Bool := lastB s.frames && decide (2 ≤ s.frames.length) && !isT s.frames
theorem inside_spec {s : State} (h : inside s = true) : Within s Lib.HandBits.below0 := by
  unfold inside at h
  rw [Bool.and_eq_true, Bool.and_eq_true] at h
  obtain ⟨⟨h1, h2⟩, h3⟩ := h
  have e := lastB_eq _ h1
  have hl : 2 ≤ s.frames.length := of_decide_eq_true h2
  refine ⟨s.frames.dropLast, e, ?_, ?_⟩
  · intro z
    have : s.frames.dropLast.length = s.frames.length - 1 := List.length_dropLast
    rw [z] at this
    simp at this
    omega
  · intro a z
    rw [z] at e
    rw [e] at h3
    cases h3
def goes (tb : Tables) (e : Env) : Nat → State → Bool
  | 0, _ => true
  | n + 1, s => inside s && goes tb e n (stepsAlone tb e 1 s)
theorem sa_one (tb : Tables) (e : Env) : ∀ (b : Nat) (s : State), stepsAlone tb e (b + 1) s = stepsAlone tb e b (stepsAlone tb e 1 s)
  | b, s => by
    rw [stepsAlone, stepsAlone]
    split
    · rfl
    · rename_i h
      cases b with
      | zero => rfl
      | succ b =>
        rw [stepsAlone]
        split
        · rename_i h1 h2 h3
          exact absurd h3 (fun z => h h1 h2 z)
        · rfl
theorem goes_at (tb : Tables) (e : Env) : ∀ (n : Nat) (s : State), goes tb e n s = true → ∀ k, k < n → Within (stepsAlone tb e k s) Lib.HandBits.below0
  | 0, _, _, _, hk => absurd hk (Nat.not_lt_zero _)
  | n + 1, s, h, k, hk => by
    rw [goes, Bool.and_eq_true] at h
    cases k with
    | zero => exact inside_spec h.1
    | succ k =>
      rw [sa_one]
      exact goes_at tb e n _ h.2 k (by omega)
def endT : List Frame → Bool
  | [.throwing 2, b] => isB b
  | _ => false
theorem endT_eq {fs : List Frame} (h : endT fs = true) : fs = .throwing 2 :: Lib.HandBits.below0 := by
  unfold endT at h
  split at h
  · rw [← isB_eq h]
  · cases h
theorem o_goes : goes p0.tables e0 77 odd = true := by decide +kernel
theorem o_end : endT (stepsAlone p0.tables e0 77 odd).frames = true := by decide +kernel
theorem o_run : (stepsAlone p0.tables e0 77 odd).status = Status.running := by krfl
theorem refuted_1_1 : RefutedClaimed_1_1 :=
  ⟨launch0, p0, e0, odd, ⟨0, 0⟩, args0, Lib.HandBits.below0, rfl, o_start, 77, .threw 2, goes_at _ _ 77 odd o_goes, o_run, endT_eq o_end, fun h => by
    have : (Cond.returned).after args0 odd (.threw 2) (stepsAlone p0.tables e0 77 odd) = true := h.1
    simp [Cond.after, Cond.holds, Cond.value] at this⟩
theorem refuted_1_2 : RefutedClaimed_1_2 :=
  ⟨launch0, p0, e0, odd, ⟨0, 0⟩, args0, Lib.HandBits.below0, rfl, o_start, 77, .threw 2, goes_at _ _ 77 odd o_goes, o_run, endT_eq o_end, fun h => by
    have : limb_1_2.after args0 odd (.threw 2) (stepsAlone p0.tables e0 77 odd) = true := h.1
    simp [limb_1_2, Cond.after, Cond.holds, Cond.value, Term.eval] at this⟩
#print axioms refuted_1_1
#print axioms refuted_1_2
end Jvm.Pilot.CBankKeeperLaw_law_r4215_47b219
