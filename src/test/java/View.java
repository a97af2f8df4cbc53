import java.util.List;

/** What can be asked of a gate, in parts: some use the gate up, and each stays far below 512 calls. */
enum View {
    PEOPLE {
        @Override
        void see(UnlikeGate gate, List<Long> seen) {
            for (int i = 0; i < gate.count(0); i++) {
                for (int t = -2; t < gate.count(1); t++) {
                    add(seen, gate.person(i, t));
                }
                add(seen, gate.may(i));
                add(seen, gate.differ(0, i, false));
                add(seen, gate.differ(0, i, true));
            }
            int[] whats = {0, 1, 2, 4, 5, 7, 8};
            for (int what : whats) {
                add(seen, gate.count(what));
            }
            add(seen, gate.last());
        }
    },
    SEARCHES {
        @Override
        void see(UnlikeGate gate, List<Long> seen) {
            int persons = gate.count(0);
            int all = (1 << persons) - 1;
            for (int i = -1; i < persons; i++) {
                add(seen, gate.longest(all, i));
            }
            for (int i = 0; i < persons; i++) {
                add(seen, gate.longest(all & ~(1 << i), -1));
                seen.add(gate.between(0, i, 3));
                add(seen, gate.nearest(i, 0));
                add(seen, gate.steps(i, persons - 1, 0));
                add(seen, gate.steps(i, persons - 1, 1));
                add(seen, gate.crowd(i, 60, 0));
                add(seen, gate.crowd(i, 60, 1));
            }
            add(seen, gate.proof());
            add(seen, gate.mustSee());
        }
    },
    ROW {
        @Override
        void see(UnlikeGate gate, List<Long> seen) {
            add(seen, gate.count(3));
            add(seen, gate.judge());
            for (int i = -1; i <= 16; i++) {
                add(seen, gate.lent(i));
            }
            for (int k = 0; k <= 16; k++) {
                add(seen, gate.add(k % 2));
            }
            for (int i = -1; i <= 16; i++) {
                add(seen, gate.lent(i));
            }
            add(seen, gate.judge());
            add(seen, gate.noRow());
        }
    },
    UNDONE {
        @Override
        void see(UnlikeGate gate, List<Long> seen) {
            for (int k = 0; k < 10; k++) {
                add(seen, gate.count(4));
                add(seen, gate.undo());
                stand(gate, seen);
            }
        }
    },
    KEPT {
        @Override
        void see(UnlikeGate gate, List<Long> seen) {
            for (int k = 0; k < 3; k++) {
                add(seen, gate.count(5));
                add(seen, gate.back());
                add(seen, gate.undo());
                stand(gate, seen);
            }
        }
    },
    GOINGS {
        @Override
        void see(UnlikeGate gate, List<Long> seen) {
            for (int k = 0; k < 3 * gate.count(0); k++) {
                int i = k % gate.count(0);
                add(seen, gate.goIn(i));
                add(seen, gate.goOut(i));
                add(seen, gate.last());
                add(seen, gate.count(4));
            }
        }
    },
    TEXT {
        @Override
        void see(UnlikeGate gate, List<Long> seen) {
            add(seen, gate.count(6));
            add(seen, gate.fault());
            add(seen, gate.write(3, 0x303B6CL));
            add(seen, gate.fault());
            add(seen, gate.write(2, 0x303BL));
            add(seen, gate.fault());
            add(seen, gate.lay());
            for (int what = 0; what < 9; what++) {
                add(seen, gate.count(what));
            }
            add(seen, gate.wipe());
        }
    };

    abstract void see(UnlikeGate gate, List<Long> seen);

    private static void add(List<Long> seen, int answer) {
        seen.add((long) answer);
    }

    private static void stand(UnlikeGate gate, List<Long> seen) {
        add(seen, gate.last());
        add(seen, gate.count(2));
        for (int i = 0; i < gate.count(0); i++) {
            add(seen, gate.person(i, -2));
            add(seen, gate.may(i));
        }
    }
}
