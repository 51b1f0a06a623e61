/-! ===== the law's calls ===== -/
def fs_X8_init (cy : Nat → ClassId) (P : Pm) : Sg := fr (sp_X8_init cy P)
theorem ln_X8_init {cy : Nat → ClassId} {P : Pm} : (fs_X8_init cy P).1 = 1 := rfl
theorem lb_X8_init {cy : Nat → ClassId} {P : Pm} {as : List Value} {σ : Hp} : (fs_X8_init cy P).2.1 as σ = (60, 1000) := rfl
def fs_X9_init (cy : Nat → ClassId) (P : Pm) : Sg := fr (sp_X9_init cy P)
theorem ln_X9_init {cy : Nat → ClassId} {P : Pm} : (fs_X9_init cy P).1 = 1 := rfl
theorem lb_X9_init {cy : Nat → ClassId} {P : Pm} {as : List Value} {σ : Hp} : (fs_X9_init cy P).2.1 as σ = (21, 4000) := rfl
def fs_X8_feed (cy : Nat → ClassId) (P : Pm) : Sg := fr (sp_X8_feed cy P)
theorem ln_X8_feed {cy : Nat → ClassId} {P : Pm} : (fs_X8_feed cy P).1 = 6 := rfl
theorem lb_X8_feed {cy : Nat → ClassId} {P : Pm} {as : List Value} {σ : Hp} : (fs_X8_feed cy P).2.1 as σ = (0, 0) := rfl
def fs_X9_feed (cy : Nat → ClassId) (P : Pm) : Sg := fr (sp_X9_feed cy P)
theorem ln_X9_feed {cy : Nat → ClassId} {P : Pm} : (fs_X9_feed cy P).1 = 6 := rfl
theorem lb_X9_feed {cy : Nat → ClassId} {P : Pm} {as : List Value} {σ : Hp} : (fs_X9_feed cy P).2.1 as σ = (0, 0) := rfl
def fs_X8_end (cy : Nat → ClassId) (P : Pm) : Sg := fr (sp_X8_end cy P)
theorem ln_X8_end {cy : Nat → ClassId} {P : Pm} : (fs_X8_end cy P).1 = 2 := rfl
theorem lb_X8_end {cy : Nat → ClassId} {P : Pm} {as : List Value} {σ : Hp} : (fs_X8_end cy P).2.1 as σ = (0, 0) := rfl
def fs_X9_end (cy : Nat → ClassId) (P : Pm) : Sg := fr (sp_X9_end cy P)
theorem ln_X9_end {cy : Nat → ClassId} {P : Pm} : (fs_X9_end cy P).1 = 2 := rfl
theorem lb_X9_end {cy : Nat → ClassId} {P : Pm} {as : List Value} {σ : Hp} : (fs_X9_end cy P).2.1 as σ = (0, 0) := rfl
theorem ln_L_port {cy : Nat → ClassId} {P : Pm} : (sp_L_port cy P).1 = 6 := rfl
theorem lb_L_port {cy : Nat → ClassId} {P : Pm} {as : List Value} {σ : Hp} : (sp_L_port cy P).2.1 as σ = (3, 80) := rfl
def fs_X9_port (cy : Nat → ClassId) (P : Pm) : Sg := fr (sp_X9_port cy P)
theorem ln_X9_port {cy : Nat → ClassId} {P : Pm} : (fs_X9_port cy P).1 = 5 := rfl
theorem lb_X9_port {cy : Nat → ClassId} {P : Pm} {as : List Value} {σ : Hp} : (fs_X9_port cy P).2.1 as σ = (0, 0) := rfl
def fs_X9_thrown (cy : Nat → ClassId) (P : Pm) : Sg := fr (sp_X9_thrown cy P)
theorem ln_X9_thrown {cy : Nat → ClassId} {P : Pm} : (fs_X9_thrown cy P).1 = 1 := rfl
theorem lb_X9_thrown {cy : Nat → ClassId} {P : Pm} {as : List Value} {σ : Hp} : (fs_X9_thrown cy P).2.1 as σ = (0, 0) := rfl
theorem ln_L_report {cy : Nat → ClassId} {P : Pm} : (sp_L_report cy P).1 = 6 := rfl
theorem lb_L_report {cy : Nat → ClassId} {P : Pm} {as : List Value} {σ : Hp} : (sp_L_report cy P).2.1 as σ = (3, 80) := rfl
def fs_X9_report (cy : Nat → ClassId) (P : Pm) : Sg := fr (sp_X9_report cy P)
theorem ln_X9_report {cy : Nat → ClassId} {P : Pm} : (fs_X9_report cy P).1 = 5 := rfl
theorem lb_X9_report {cy : Nat → ClassId} {P : Pm} {as : List Value} {σ : Hp} : (fs_X9_report cy P).2.1 as σ = (0, 0) := rfl
theorem ln_L_counts {cy : Nat → ClassId} {P : Pm} : (sp_L_counts cy P).1 = 5 := rfl
theorem lb_L_counts {cy : Nat → ClassId} {P : Pm} {as : List Value} {σ : Hp} : (sp_L_counts cy P).2.1 as σ = (1, 6) := rfl
def fs_X9_counts (cy : Nat → ClassId) (P : Pm) : Sg := fr (sp_X9_counts cy P)
theorem ln_X9_counts {cy : Nat → ClassId} {P : Pm} : (fs_X9_counts cy P).1 = 4 := rfl
theorem lb_X9_counts {cy : Nat → ClassId} {P : Pm} {as : List Value} {σ : Hp} : (fs_X9_counts cy P).2.1 as σ = (0, 0) := rfl
theorem ln_L_field {cy : Nat → ClassId} {P : Pm} : (sp_L_field cy P).1 = 6 := rfl
theorem lb_L_field {cy : Nat → ClassId} {P : Pm} {as : List Value} {σ : Hp} : (sp_L_field cy P).2.1 as σ = (1, 6) := rfl
def fs_X9_field (cy : Nat → ClassId) (P : Pm) : Sg := fr (sp_X9_field cy P)
theorem ln_X9_field {cy : Nat → ClassId} {P : Pm} : (fs_X9_field cy P).1 = 5 := rfl
theorem lb_X9_field {cy : Nat → ClassId} {P : Pm} {as : List Value} {σ : Hp} : (fs_X9_field cy P).2.1 as σ = (0, 0) := rfl
theorem ln_L_rules {cy : Nat → ClassId} {P : Pm} : (sp_L_rules cy P).1 = 2 := rfl
theorem lb_L_rules {cy : Nat → ClassId} {P : Pm} {as : List Value} {σ : Hp} : (sp_L_rules cy P).2.1 as σ = (1, 6) := rfl
def fs_X9_rules (cy : Nat → ClassId) (P : Pm) : Sg := fr (sp_X9_rules cy P)
theorem ln_X9_rules {cy : Nat → ClassId} {P : Pm} : (fs_X9_rules cy P).1 = 1 := rfl
theorem lb_X9_rules {cy : Nat → ClassId} {P : Pm} {as : List Value} {σ : Hp} : (fs_X9_rules cy P).2.1 as σ = (0, 0) := rfl
def fs_X8_fault (cy : Nat → ClassId) (P : Pm) : Sg := fr (sp_X8_fault cy P)
theorem ln_X8_fault {cy : Nat → ClassId} {P : Pm} : (fs_X8_fault cy P).1 = 1 := rfl
theorem lb_X8_fault {cy : Nat → ClassId} {P : Pm} {as : List Value} {σ : Hp} : (fs_X8_fault cy P).2.1 as σ = (0, 0) := rfl
def fs_X9_fault (cy : Nat → ClassId) (P : Pm) : Sg := fr (sp_X9_fault cy P)
theorem ln_X9_fault {cy : Nat → ClassId} {P : Pm} : (fs_X9_fault cy P).1 = 1 := rfl
theorem lb_X9_fault {cy : Nat → ClassId} {P : Pm} {as : List Value} {σ : Hp} : (fs_X9_fault cy P).2.1 as σ = (0, 0) := rfl
theorem ln_L_gale {cy : Nat → ClassId} {P : Pm} : (sp_L_gale cy P).1 = 6 := rfl
theorem lb_L_gale {cy : Nat → ClassId} {P : Pm} {as : List Value} {σ : Hp} : (sp_L_gale cy P).2.1 as σ = (3, 80) := rfl
def fs_X9_gale (cy : Nat → ClassId) (P : Pm) : Sg := fr (sp_X9_gale cy P)
theorem ln_X9_gale {cy : Nat → ClassId} {P : Pm} : (fs_X9_gale cy P).1 = 5 := rfl
theorem lb_X9_gale {cy : Nat → ClassId} {P : Pm} {as : List Value} {σ : Hp} : (fs_X9_gale cy P).2.1 as σ = (0, 0) := rfl
theorem ln_L_boat {cy : Nat → ClassId} {P : Pm} : (sp_L_boat cy P).1 = 5 := rfl
theorem lb_L_boat {cy : Nat → ClassId} {P : Pm} {as : List Value} {σ : Hp} : (sp_L_boat cy P).2.1 as σ = (3, 80) := rfl
def fs_X9_boat (cy : Nat → ClassId) (P : Pm) : Sg := fr (sp_X9_boat cy P)
theorem ln_X9_boat {cy : Nat → ClassId} {P : Pm} : (fs_X9_boat cy P).1 = 4 := rfl
theorem lb_X9_boat {cy : Nat → ClassId} {P : Pm} {as : List Value} {σ : Hp} : (fs_X9_boat cy P).2.1 as σ = (0, 0) := rfl
theorem ln_L_trip {cy : Nat → ClassId} {P : Pm} : (sp_L_trip cy P).1 = 5 := rfl
theorem lb_L_trip {cy : Nat → ClassId} {P : Pm} {as : List Value} {σ : Hp} : (sp_L_trip cy P).2.1 as σ = (2, 12) := rfl
def fs_X9_trip (cy : Nat → ClassId) (P : Pm) : Sg := fr (sp_X9_trip cy P)
theorem ln_X9_trip {cy : Nat → ClassId} {P : Pm} : (fs_X9_trip cy P).1 = 4 := rfl
theorem lb_X9_trip {cy : Nat → ClassId} {P : Pm} {as : List Value} {σ : Hp} : (fs_X9_trip cy P).2.1 as σ = (0, 0) := rfl
theorem ln_L_hours {cy : Nat → ClassId} {P : Pm} : (sp_L_hours cy P).1 = 3 := rfl
def fs_X9_hours (cy : Nat → ClassId) (P : Pm) : Sg := fr (sp_X9_hours cy P)
theorem ln_X9_hours {cy : Nat → ClassId} {P : Pm} : (fs_X9_hours cy P).1 = 2 := rfl
theorem lb_X9_hours {cy : Nat → ClassId} {P : Pm} {as : List Value} {σ : Hp} : (fs_X9_hours cy P).2.1 as σ = (0, 0) := rfl
theorem ln_L_flies {cy : Nat → ClassId} {P : Pm} : (sp_L_flies cy P).1 = 4 := rfl
theorem lb_L_flies {cy : Nat → ClassId} {P : Pm} {as : List Value} {σ : Hp} : (sp_L_flies cy P).2.1 as σ = (1, 6) := rfl
def fs_X9_flies (cy : Nat → ClassId) (P : Pm) : Sg := fr (sp_X9_flies cy P)
theorem ln_X9_flies {cy : Nat → ClassId} {P : Pm} : (fs_X9_flies cy P).1 = 3 := rfl
theorem lb_X9_flies {cy : Nat → ClassId} {P : Pm} {as : List Value} {σ : Hp} : (fs_X9_flies cy P).2.1 as σ = (0, 0) := rfl
theorem ln_L_warning {cy : Nat → ClassId} {P : Pm} : (sp_L_warning cy P).1 = 4 := rfl
theorem lb_L_warning {cy : Nat → ClassId} {P : Pm} {as : List Value} {σ : Hp} : (sp_L_warning cy P).2.1 as σ = (2, 12) := rfl
def fs_X9_warning (cy : Nat → ClassId) (P : Pm) : Sg := fr (sp_X9_warning cy P)
theorem ln_X9_warning {cy : Nat → ClassId} {P : Pm} : (fs_X9_warning cy P).1 = 3 := rfl
theorem lb_X9_warning {cy : Nat → ClassId} {P : Pm} {as : List Value} {σ : Hp} : (fs_X9_warning cy P).2.1 as σ = (0, 0) := rfl
theorem ln_L_look {cy : Nat → ClassId} {P : Pm} : (sp_L_look cy P).1 = 4 := rfl
theorem lb_L_look {cy : Nat → ClassId} {P : Pm} {as : List Value} {σ : Hp} : (sp_L_look cy P).2.1 as σ = (2, 12) := rfl
def fs_X9_look (cy : Nat → ClassId) (P : Pm) : Sg := fr (sp_X9_look cy P)
theorem ln_X9_look {cy : Nat → ClassId} {P : Pm} : (fs_X9_look cy P).1 = 3 := rfl
theorem lb_X9_look {cy : Nat → ClassId} {P : Pm} {as : List Value} {σ : Hp} : (fs_X9_look cy P).2.1 as σ = (0, 0) := rfl
theorem ln_L_score {cy : Nat → ClassId} {P : Pm} : (sp_L_score cy P).1 = 4 := rfl
theorem lb_L_score {cy : Nat → ClassId} {P : Pm} {as : List Value} {σ : Hp} : (sp_L_score cy P).2.1 as σ = (2, 12) := rfl
def fs_X9_score (cy : Nat → ClassId) (P : Pm) : Sg := fr (sp_X9_score cy P)
theorem ln_X9_score {cy : Nat → ClassId} {P : Pm} : (fs_X9_score cy P).1 = 3 := rfl
theorem lb_X9_score {cy : Nat → ClassId} {P : Pm} {as : List Value} {σ : Hp} : (fs_X9_score cy P).2.1 as σ = (0, 0) := rfl
def fs_X8_count (cy : Nat → ClassId) (P : Pm) : Sg := fr (sp_X8_count cy P)
theorem ln_X8_count {cy : Nat → ClassId} {P : Pm} : (fs_X8_count cy P).1 = 2 := rfl
theorem lb_X8_count {cy : Nat → ClassId} {P : Pm} {as : List Value} {σ : Hp} : (fs_X8_count cy P).2.1 as σ = (0, 0) := rfl
def fs_X9_count (cy : Nat → ClassId) (P : Pm) : Sg := fr (sp_X9_count cy P)
theorem ln_X9_count {cy : Nat → ClassId} {P : Pm} : (fs_X9_count cy P).1 = 2 := rfl
theorem lb_X9_count {cy : Nat → ClassId} {P : Pm} {as : List Value} {σ : Hp} : (fs_X9_count cy P).2.1 as σ = (0, 0) := rfl
def iv_L_law (cy : Nat → ClassId) (P : Pm) : Nat → Nat → Option Sg
  | 2, 62 => some (fs_X8_init cy P)
  | 2, 65 => some (fs_X9_init cy P)
  | 0, 66 => some (fs_X8_feed cy P)
  | 0, 70 => some (fs_X9_feed cy P)
  | 0, 71 => some (fs_X8_end cy P)
  | 0, 75 => some (fs_X9_end cy P)
  | 1, 76 => some (sp_L_port cy P)
  | 0, 81 => some (fs_X9_port cy P)
  | 0, 82 => some (fs_X9_thrown cy P)
  | 1, 85 => some (sp_L_report cy P)
  | 0, 87 => some (fs_X9_report cy P)
  | 1, 88 => some (sp_L_counts cy P)
  | 0, 91 => some (fs_X9_counts cy P)
  | 1, 92 => some (sp_L_field cy P)
  | 0, 94 => some (fs_X9_field cy P)
  | 1, 95 => some (sp_L_rules cy P)
  | 0, 98 => some (fs_X9_rules cy P)
  | 0, 99 => some (fs_X8_fault cy P)
  | 0, 102 => some (fs_X9_fault cy P)
  | 1, 103 => some (sp_L_gale cy P)
  | 0, 105 => some (fs_X9_gale cy P)
  | 1, 106 => some (sp_L_boat cy P)
  | 0, 108 => some (fs_X9_boat cy P)
  | 1, 109 => some (sp_L_trip cy P)
  | 0, 111 => some (fs_X9_trip cy P)
  | 1, 112 => some (sp_L_hours cy P)
  | 0, 115 => some (fs_X9_hours cy P)
  | 1, 116 => some (sp_L_flies cy P)
  | 0, 119 => some (fs_X9_flies cy P)
  | 1, 120 => some (sp_L_warning cy P)
  | 0, 122 => some (fs_X9_warning cy P)
  | 1, 123 => some (sp_L_look cy P)
  | 0, 125 => some (fs_X9_look cy P)
  | 1, 126 => some (sp_L_score cy P)
  | 0, 128 => some (fs_X9_score cy P)
  | 0, 129 => some (fs_X8_count cy P)
  | 0, 132 => some (fs_X9_count cy P)
  | _, _ => none
/-- the hours that pass -/
theorem hrs_now : ∀ {n : Nat} {S : Sx}, NB S.1 → (hrsM n S).1 1 = min (S.1 1 + n) 2000
  | 0, S, h => by unfold hrsM; have := h.1; omega
  | n + 1, S, h => by
    unfold hrsM
    split
    · rename_i h2
      have h3 := NB_hour h h2
      rw [hrs_now h3.1, h3.2]
      omega
    · have := h.1; omega
