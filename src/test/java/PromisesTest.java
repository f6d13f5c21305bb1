/** Each promise of the document by itself, with answers found by hand: ordinary ones, edges and refusals. */
public final class PromisesTest extends Trial {
    /** A plain, a loud, a dry one, a priest; 3 motions. */
    private static final String FOUR = "h4;m20;m9;m33;p6,2;l12,3;d3,5;r9,1;";

    public static void main(String[] args) {
        PromisesTest test = new PromisesTest();
        test.constants();
        test.promise1();
        test.promise2();
        test.promise3();
        test.promise4();
        test.promise5();
        test.promise6();
        test.promise7();
        test.promise7Faults();
        test.promise8();
        test.promise9();
        test.promise10();
        test.promise11();
        test.promise12();
        test.promise13();
        test.promise14();
        test.promise15();
        test.promise16();
        test.promise17();
        test.promise18();
        test.promise19();
        test.promise20();
        test.promise21();
        test.promise22();
        test.promise23();
        test.promise24();
        test.promise25();
        test.promise26();
        test.promise27();
        test.promise28();
        test.promise29();
        test.promise30();
        test.promise31();
        test.promise32();
        test.promise33();
        test.promise34();
        test.promise35();
        test.foretoldChangesNothing();
        test.checks.end();
    }

    private void constants() {
        due("NONE", HoarseHill.NONE, NONE);
        due("BAD", HoarseHill.BAD, BAD);
        due("STATE", HoarseHill.STATE, STATE);
        due("FULL", HoarseHill.FULL, FULL);
    }

    private void promise1() {
        fresh();
        for (int what = 0; what <= 8; what++) {
            due("new: count " + what, x.count(what), 0);
        }
        due("new: fault", x.fault(), 0);
        due("new: status", x.status(), 0);
        due("new: speak", x.speak(0), STATE);
        due("new: trace", x.trace(0), NONE);
        due("new: restore", x.restore(0), STATE);
        due("new: restore", x.restore(1), STATE);
        for (int row = 0; row < 8; row++) {
            due("new: drop", x.drop(row), NULL);
        }
    }

    private void promise2() {
        fresh("h1;m0;");
        due("row", x.row(0, 0, 40), 40);
        due("row, none", x.row(7, 2, 0), 0);
        due("row", x.row(1, 1, 7), 7);
        due("count rows", x.count(0), 3);
        due("row above", x.row(8, 0, 1), BAD);
        due("row below", x.row(-1, 0, 1), BAD);
        due("row, lane above", x.row(0, 3, 1), BAD);
        due("row, lane below", x.row(0, -1, 1), BAD);
        due("row, 41", x.row(0, 0, 41), BAD);
        due("row, lane ahead of SIZE", x.row(0, 3, -1), BAD);
        due("row, row ahead of SIZE", x.row(8, 0, -1), BAD);
        due("row, SIZE", x.row(0, 0, -1), SIZE);
        due("row, SIZE", x.row(2, 0, MIN), SIZE);
        due("count rows", x.count(0), 3);
        due("what was found changed nothing", x.drop(0), 40);
        x.row(1, 1, 2);
        setItems(1, 1, 1);
        due("row in place of another", x.row(1, 0, 3), 3);
        dueItems("items are 0 at first", 1, 0, 0, 0);
        due("it has the new lane", x.set(1, 0, 300), 44);
        due("it has the new length", x.drop(1), 3);
    }

    private void promise3() {
        fresh();
        x.row(0, 0, 2);
        x.row(1, 1, 2);
        x.row(2, 2, 2);
        due("set byte", x.set(0, 0, 127), 127);
        due("set byte", x.set(0, 0, 128), -128);
        due("set byte", x.set(0, 1, -129), 127);
        due("set byte", x.set(0, 1, MAX), -1);
        due("set short", x.set(1, 0, 128), 128);
        due("set short", x.set(1, 0, 32768), -32768);
        due("set short", x.set(1, 1, MIN), 0);
        due("set int", x.set(2, 0, MIN), MIN);
        due("set int", x.set(2, 1, MAX), MAX);
        due("set, BAD", x.set(8, 0, 0), BAD);
        due("set, BAD", x.set(-1, 0, 0), BAD);
        due("set, NULL", x.set(3, 0, 0), NULL);
        due("set, NULL ahead of PLACE", x.set(3, -1, 0), NULL);
        due("set, PLACE", x.set(0, 2, 0), PLACE);
        due("set, PLACE", x.set(0, -1, 0), PLACE);
        due("set, PLACE", x.set(0, MAX, 0), PLACE);
        due("set, PLACE", x.set(0, MIN, 0), PLACE);
        x.row(3, 2, 0);
        due("set, PLACE of none", x.set(3, 0, 0), PLACE);
        fresh("h1;m0;");
        x.row(4, 0, 3);
        x.row(5, 0, 3);
        setItems(4, 0, 1, 1);
        dueItems("what was set stands", 4, 0, 1, 1);
        dueItems("no other row is set", 5, 0, 0, 0);
    }

    private void promise4() {
        fresh("h1;m0;");
        x.row(0, 0, 5);
        x.row(1, 0, 3);
        x.row(2, 1, 3);
        setItems(0, 1, 0, 1, 1, 0);
        due("copy upwards onto itself", x.copy(0, 0, 0, 1, 4), 4);
        dueItems("as they were ahead", 0, 1, 1, 0, 1, 1);
        due("copy downwards onto itself", x.copy(0, 1, 0, 0, 4), 4);
        dueItems("as they were ahead", 0, 1, 0, 1, 1, 1);
        due("copy", x.copy(0, 2, 1, 0, 2), 2);
        dueItems("copied", 1, 1, 1, 0);
        due("copy none", x.copy(0, 5, 1, 3, 0), 0);
        due("copy, BAD", x.copy(8, 0, 0, 0, 0), BAD);
        due("copy, BAD", x.copy(0, 0, 8, 0, 0), BAD);
        due("copy, BAD ahead of NULL", x.copy(3, 0, -1, 0, 0), BAD);
        due("copy, NULL", x.copy(3, 0, 0, 0, 1), NULL);
        due("copy, NULL ahead of PLACE", x.copy(0, -1, 3, 0, 1), NULL);
        due("copy, STORE", x.copy(0, 0, 2, 0, 1), STORE);
        due("copy, STORE ahead of PLACE", x.copy(0, 9, 2, -1, -1), STORE);
        due("copy, STORE though none", x.copy(2, 0, 0, 0, 0), STORE);
        int[][] places = {{-1, 0, 1}, {0, -1, 1}, {0, 0, -1}, {5, 0, 1}, {4, 0, 2}, {0, 3, 1}, {0, 1, 3}, {6, 0, 0},
            {0, 4, 0}, {MAX, 0, 1}, {1, 0, MAX}, {MAX, MAX, MAX}, {0, MAX, MAX}, {MIN, 0, 0}, {0, 0, MIN}};
        for (int[] p : places) {
            due("copy, PLACE " + p[0] + " " + p[1] + " " + p[2], x.copy(0, p[0], 1, p[1], p[2]), PLACE);
        }
        dueItems("what was found changed nothing", 0, 1, 0, 1, 1, 1);
        dueItems("what was found changed nothing", 1, 1, 1, 0);
    }

    private void promise5() {
        fresh();
        x.row(0, 2, 11);
        x.row(1, 2, 0);
        due("drop", x.drop(0), 11);
        due("drop, NULL", x.drop(0), NULL);
        due("drop none", x.drop(1), 0);
        due("drop, NULL", x.drop(1), NULL);
        due("drop, BAD", x.drop(8), BAD);
        due("drop, BAD", x.drop(-1), BAD);
        due("count rows", x.count(0), 0);
    }

    private void promise6() {
        fresh();
        due("feed", x.feed(0), 1);
        due("feed", x.feed(255), 2);
        due("feed, BAD", x.feed(256), BAD);
        due("feed, BAD", x.feed(-1), BAD);
        for (int n = 3; n <= 100; n++) {
            due("feed", x.feed('a'), n);
        }
        due("feed, FULL", x.feed('a'), FULL);
        due("feed, BAD ahead of FULL", x.feed(256), BAD);
        due("the tape", x.count(7), 100);
        due("read", x.hill(), -1000100);
        due("the tape is empty", x.count(7), 0);
        due("feed", x.feed('a'), 1);
    }

    private void promise7() {
        fresh();
        due("read", read(FOUR), 4);
        due("the tape is empty", x.count(7), 0);
        due("motions", x.count(1), 3);
        due("members", x.count(2), 4);
        due("cost", x.count(4), 4);
        x.speak(8);
        x.needs(0, 0);
        x.speak(0);
        x.cold(0, 1);
        due("read, no members", read("h9;m99;"), 0);
        due("day", x.count(3), 0);
        due("carried", x.count(8), 0);
        due("acts", x.count(6), 0);
        due("undo", x.undo(), STATE);
        due("motions", x.count(1), 1);
        due("needs", x.motion(0), 99);
        due("cost", x.count(4), 9);
        due("read, all there is room for", read("h01;m00;m1;m2;m03;p20,9;l0,0;d00,09;i7,8;"), 4);
        due("cost", x.count(4), 1);
        due("needs", x.motion(0), 0);
        due("needs", x.motion(3), 3);
        int[][] members = {{1, 20, 9}, {2, 0, 0}, {3, 0, 9}, {4, 7, 8}};
        for (int m = 0; m < 4; m++) {
            due("sort", x.kind(m), members[m][0]);
            due("breath", x.member(m, 0), members[m][1]);
            due("mends", x.member(m, 1), members[m][2]);
        }
        due("read a priest", read("h1;m1;r1,2;"), 1);
        due("a priest", x.kind(0), 5);
    }

    private void promise7Faults() {
        fresh("h1;m5;p7,7;");
        x.cold(0, 3);
        dueFault("", 0, 1);
        dueFault("h", 1, 1);
        dueFault("m1;", 0, 1);
        dueFault("h0;", 1, 2);
        dueFault("h10;", 1, 2);
        dueFault("h100;", 1, 1);
        dueFault("h1", 2, 1);
        dueFault("h1,", 2, 1);
        dueFault("h;", 1, 1);
        dueFault("hh", 1, 1);
        dueFault("h1;", 3, 1);
        dueFault("h1;m", 4, 1);
        dueFault("h1;m;", 4, 1);
        dueFault("h1;m123;", 4, 1);
        dueFault("h1;m1234567890;", 4, 1);
        dueFault("h1;m1;;", 6, 1);
        dueFault("h1;m1; ", 6, 1);
        dueFault("h1;m1;x", 6, 1);
        dueFault("h1;m1;h1;", 6, 1);
        dueFault("h1;m1;P1,1;", 6, 1);
        dueFault("h1;m1;5", 6, 1);
        dueFault("h1;m1;p21,1;", 7, 2);
        dueFault("h1;m1;p210,1;", 7, 1);
        dueFault("h1;m1;p20;", 9, 1);
        dueFault("h1;m1;p20,", 10, 1);
        dueFault("h1;m1;p20,10;", 10, 2);
        dueFault("h1;m1;p20,100;", 10, 1);
        dueFault("h1;m1;p20,1", 11, 1);
        dueFault("h1;m1;p20,1;m1;", 12, 1);
        dueFault("h1;m1;p20,1;" + (char) 0, 12, 1);
        dueFault("h1;m1;p20,1;" + (char) 255, 12, 1);
        dueFault("h1;m1;m2;m3;m4;m5;", 15, 3);
        dueFault("h1;m1;m2;m3;m4;m", 15, 3);
        dueFault("h1;m1;m2;m3;m4;m555;", 15, 3);
        dueFault("h1;m1;m2;m3;m4;i1,1;m5;", 20, 1);
        dueFault("h1;m1;p1,1;p1,1;p1,1;p1,1;p1,1;", 26, 3);
        dueFault("h1;m1;p1,1;p1,1;p1,1;p1,1;r", 26, 3);
        dueFault("h1;m1;p1,1;p1,1;p1,1;p1,1;m", 26, 1);
        dueFault("h1;m1;p1,1;p1,1;p1,1;p1,1;x", 26, 1);
        dueFault("h1;m1;p99,99;h", 7, 2);
        due("all stays: breath", x.member(0, 0), 3);
        due("all stays: acts", x.undo(), 0);
        due("all stays: breath", x.member(0, 0), 7);
        due("all stays: motions", x.count(1), 1);
    }

    private void promise8() {
        fresh();
        due("fault", x.fault(), 0);
        dueFault("h0;", 1, 2);
        due("read", read("h1;m1;"), 0);
        due("the latest fault stays", x.fault(), 2);
        dueFault("h1;m1;m1;m1;m1;m1;", 15, 3);
        dueFault("", 0, 1);
    }

    private void promise9() {
        fresh();
        due("speak, STATE ahead of BAD", x.speak(-1), STATE);
        read(FOUR);
        due("speak, BAD", x.speak(16), BAD);
        due("speak, BAD", x.speak(-1), BAD);
        due("speak, BAD", x.speak(MIN), BAD);
        due("speak, BAD ahead of STATE", x.speak(20), BAD);
        due("speak, STATE", x.speak(4), STATE);
        due("speak, STATE", x.speak(15), STATE);
        due("what is refused changes nothing", x.count(3), 0);
        due("what is refused is no act", x.count(6), 0);
        due("speak: 14 and 6 for 20", x.speak(9), 1);
        dueBreaths(2, 15, 3, 9);
        due("speak: 0 for 9", x.speak(0), 0);
        dueBreaths(4, 18, 8, 10);
        due("speak: 4 and 12 for 33", x.speak(6), 0);
        dueBreaths(6, 13, 4, 11);
        due("speak: the first motion anew, 16 for 20", x.speak(4), 0);
        dueBreaths(8, 16, 0, 12);
        due("day", x.count(3), 4);
        due("carried", x.count(8), 1);
        for (int day = 4; day < 10; day++) {
            due("nobody speaks", x.speak(0), 0);
        }
        dueBreaths(20, 20, 15, 18);
        fresh("h1;m0;i20,9;");
        due("nothing is needed", x.speak(0), 1);
        due("20 at most", x.member(0, 0), 20);
        due("he speaks for nothing", x.speak(1), 1);
        due("it cost nothing", x.member(0, 0), 20);
        fresh("h9;m20;p9,0;l9,0;");
        due("speak, STATE: one more than the cost", x.speak(2), STATE);
        due("speak: 11 for 20", x.speak(1), 0);
        fresh("h1;m0;");
        for (int day = 0; day < 999; day++) {
            due("speak", x.speak(0), 1);
        }
        due("speak, FULL", x.speak(0), FULL);
        due("speak, BAD ahead of FULL", x.speak(1), BAD);
        due("day", x.count(3), 999);
    }

    private void promise10() {
        fresh();
        due("lozenge, BAD", x.lozenge(0), BAD);
        read(FOUR);
        due("lozenge", x.lozenge(2), 8);
        due("lozenge", x.lozenge(1), 17);
        due("lozenge, 20 at most", x.lozenge(1), 20);
        due("lozenge, 20 still", x.lozenge(1), 20);
        due("lozenge, BAD", x.lozenge(4), BAD);
        due("lozenge, BAD", x.lozenge(-1), BAD);
        due("acts", x.count(6), 4);
        due("no day", x.count(3), 0);
        dueBreaths(6, 20, 8, 9);
    }

    private void promise11() {
        fresh();
        due("cold, BAD", x.cold(0, 0), BAD);
        read(FOUR);
        due("cold", x.cold(1, 0), 12);
        due("cold", x.cold(1, 20), 0);
        due("cold", x.cold(1, 20), 20);
        due("cold, BAD", x.cold(1, 21), BAD);
        due("cold, BAD", x.cold(1, -1), BAD);
        due("cold, BAD", x.cold(4, 1), BAD);
        due("cold, BAD", x.cold(-1, 1), BAD);
        due("acts", x.count(6), 3);
        dueBreaths(6, 20, 3, 9);
    }

    private void promise12() {
        fresh();
        due("needs, BAD", x.needs(0, 0), BAD);
        read(FOUR);
        due("needs", x.needs(2, 99), 33);
        due("needs", x.needs(2, 0), 99);
        due("needs, BAD", x.needs(2, 100), BAD);
        due("needs, BAD", x.needs(2, -1), BAD);
        due("needs, BAD", x.needs(3, 1), BAD);
        due("needs, BAD", x.needs(-1, 1), BAD);
        due("motion", x.motion(2), 0);
        due("acts", x.count(6), 2);
        x.needs(0, 21);
        due("speak: 14 and 6 for 21", x.speak(9), 0);
    }

    private void promise13() {
        fresh();
        due("undo, STATE", x.undo(), STATE);
        read(FOUR);
        due("undo, STATE", x.undo(), STATE);
        x.speak(9);
        x.lozenge(2);
        x.cold(0, 17);
        x.needs(1, 1);
        x.speak(1);
        due("carried", x.count(8), 2);
        due("undo a day", x.undo(), 4);
        due("day", x.count(3), 1);
        due("carried", x.count(8), 1);
        dueBreaths(17, 15, 8, 9);
        due("undo needs", x.undo(), 3);
        due("motion", x.motion(1), 9);
        due("undo a cold", x.undo(), 2);
        dueBreaths(2, 15, 8, 9);
        due("undo a lozenge", x.undo(), 1);
        dueBreaths(2, 15, 3, 9);
        due("undo a day", x.undo(), 0);
        dueBreaths(6, 12, 3, 9);
        due("day", x.count(3), 0);
        due("carried", x.count(8), 0);
        due("undo, STATE", x.undo(), STATE);
        for (int act = 1; act <= 60; act++) {
            x.needs(0, act);
            due("acts, 24 at most", x.count(6), Math.min(24, act));
        }
        for (int left = 23; left >= 0; left--) {
            due("undo", x.undo(), left);
            due("the latest first", x.motion(0), 36 + left);
        }
        due("the oldest are forgotten", x.undo(), STATE);
        due("motion", x.motion(0), 36);
    }

    private void promise14() {
        fresh();
        due("member, BAD", x.member(0, 0), BAD);
        read("h3;m1;p3,1;l3,2;d2,3;r0,4;");
        int[][] members = {{3, 1, 1, 17, 3}, {3, 2, 0, 34, 4}, {2, 3, 0, 18, 3}, {0, 4, 1, 7, 0}};
        for (int m = 0; m < 4; m++) {
            for (int what = 0; what < 5; what++) {
                due("member " + m + ", " + what, x.member(m, what), members[m][what]);
            }
        }
        due("member, BAD", x.member(4, 0), BAD);
        due("member, BAD", x.member(-1, 0), BAD);
        due("member, BAD", x.member(0, 5), BAD);
        due("member, BAD", x.member(0, -1), BAD);
        read("h3;m1;i0,4;l4,0;");
        due("a mild one weighs", x.member(0, 3), 5);
        due("a mild one costs", x.member(0, 4), 0);
        due("a mild one can", x.member(0, 2), 1);
        due("a loud one can", x.member(1, 2), 1);
        due("no third member is left", x.member(2, 0), BAD);
    }

    private void promise15() {
        fresh();
        due("motion, BAD", x.motion(0), BAD);
        read(FOUR);
        due("motion", x.motion(0), 20);
        due("motion", x.motion(1), 9);
        due("motion", x.motion(2), 33);
        due("motion, BAD", x.motion(3), BAD);
        due("motion, BAD", x.motion(-1), BAD);
    }

    private void promise16() {
        fresh();
        due("weight, STATE ahead of BAD", x.weight(-1), STATE);
        read(FOUR);
        int[] each = {14, 16, 17, 6};
        for (int set = 0; set < 16; set++) {
            int sum = 0;
            for (int m = 0; m < 4; m++) {
                sum += (set >> m & 1) * each[m];
            }
            due("weight " + set, x.weight(set), sum);
        }
        due("weight, BAD", x.weight(16), BAD);
        due("weight, BAD", x.weight(-1), BAD);
        read("h1;m1;r1,1;");
        due("weight", x.weight(1), 5);
        due("weight, BAD", x.weight(2), BAD);
        read("h1;m1;");
        due("weight of none", x.weight(0), 0);
        due("weight, BAD", x.weight(1), BAD);
    }

    private void duePower(int member, int above, int below) {
        due("power above", x.power(member, 0), above);
        due("power below", x.power(member, 1), below);
    }

    private void promise17() {
        fresh();
        due("power, BAD", x.power(0, 0), BAD);
        // They weigh 6, 10, 5; the last can not speak.
        read("h1;m15;p14,0;p10,0;i0,0;p0,9;");
        duePower(0, 1, 6);
        duePower(1, 2, 3);
        duePower(2, 1, 6);
        duePower(3, 0, 1);
        x.needs(0, 22);
        duePower(1, 0, 1);
        x.needs(0, 21);
        duePower(0, 1, 3);
        x.needs(0, 0);
        duePower(0, 0, 1);
        x.needs(0, 1);
        duePower(2, 1, 3);
        x.cold(3, 19);
        x.needs(0, 22);
        duePower(3, 1, 4);
        due("power, BAD", x.power(4, 0), BAD);
        due("power, BAD", x.power(-1, 0), BAD);
        due("power, BAD", x.power(0, 2), BAD);
        due("power, BAD", x.power(0, -1), BAD);
    }

    private void promise18() {
        fresh();
        due("fewest, STATE ahead of BAD", x.fewest(2), STATE);
        read("h1;m15;p14,0;p10,0;i0,0;p0,9;");
        dueFewest(2, 3);
        x.needs(0, 0);
        dueFewest(0, 0);
        x.needs(0, 10);
        dueFewest(1, 2);
        x.needs(0, 5);
        dueFewest(1, 1);
        x.needs(0, 21);
        dueFewest(3, 7);
        x.needs(0, 22);
        dueFewest(NONE, NONE);
        due("fewest, BAD", x.fewest(2), BAD);
        due("fewest, BAD", x.fewest(-1), BAD);
        read("h1;m10;p15,0;p15,0;p10,0;");
        dueFewest(1, 4);
    }

    private void dueFewest(int howMany, int who) {
        due("fewest, how many", x.fewest(0), howMany);
        due("fewest, who", x.fewest(1), who);
    }

    private void duePlan(int n, int most, int... sets) {
        due("plan " + n, x.plan(n, -1), most);
        for (int k = 0; k < 4; k++) {
            due("plan " + n + ", day " + k, x.plan(n, k), k < n ? sets[k] : NONE);
        }
    }

    private void promise19() {
        fresh();
        due("plan, STATE ahead of BAD", x.plan(0, 4), STATE);
        read("h5;m10;m15;p5,0;");
        duePlan(1, 1, 1);
        duePlan(2, 1, 0, 1);
        duePlan(3, 1, 0, 0, 1);
        duePlan(4, 1, 0, 0, 0, 1);
        read("h5;m10;m15;p5,5;");
        duePlan(4, 2, 1, 0, 1, 0);
        due("a day goes by", x.speak(0), 0);
        duePlan(2, 1, 1, 1);
        read("h1;m99;p5,5;l5,5;d5,5;r5,5;");
        duePlan(4, 0, 0, 0, 0, 0);
        read("h1;m0;");
        duePlan(3, 3, 0, 0, 0);
        read("h5;m15;d5,9;");
        duePlan(4, 1, 0, 1, 0, 0);
        due("plan, BAD", x.plan(0, -1), BAD);
        due("plan, BAD", x.plan(5, -1), BAD);
        due("plan, BAD", x.plan(1, -2), BAD);
        due("plan, BAD", x.plan(1, 4), BAD);
    }

    private void dueAgenda(int most, int... order) {
        due("agenda", x.agenda(-1), most);
        for (int k = 0; k < 4; k++) {
            due("agenda " + k, x.agenda(k), k < order.length ? order[k] : NONE);
        }
    }

    private void promise20() {
        fresh();
        due("agenda, STATE ahead of BAD", x.agenda(4), STATE);
        read("h2;m17;m10;p6,0;");
        dueAgenda(1, 0, 1);
        read("h2;m16;m10;p6,0;");
        dueAgenda(2, 1, 0);
        x.speak(0);
        dueAgenda(2, 1, 0);
        read("h1;m19;m18;m17;m16;p4,0;");
        dueAgenda(4, 3, 2, 1, 0);
        read("h1;m99;");
        dueAgenda(0, 0);
        read("h1;m5;m6;m5;i0,0;");
        dueAgenda(2, 0, 1, 2);
        due("agenda, BAD", x.agenda(-2), BAD);
        due("agenda, BAD", x.agenda(4), BAD);
    }

    private void dueLozenges(int fewest, int... given) {
        due("lozenges", x.lozenges(-1), fewest);
        for (int k = 0; k < 4; k++) {
            due("lozenges " + k, x.lozenges(k), k < given.length ? given[k] : NONE);
        }
    }

    private void promise21() {
        fresh();
        due("lozenges, STATE ahead of BAD", x.lozenges(4), STATE);
        read("h5;m12;p3,0;p4,0;");
        dueLozenges(1, 1, 0);
        read("h5;m12;p3,0;p3,0;");
        dueLozenges(1, 0, 1);
        read("h5;m99;p3,0;");
        dueLozenges(NONE);
        read("h5;m15;p5,0;");
        dueLozenges(0, 0);
        read("h9;m10;p0,0;");
        dueLozenges(2, 2);
        x.needs(0, 11);
        dueLozenges(NONE);
        read("h9;m40;p0,0;p4,0;p5,0;l0,0;");
        dueLozenges(4, 0, 1, 1, 2);
        read("h5;m12;p3,0;p4,0;p4,0;p4,0;");
        dueLozenges(1, 1, 0, 0, 0);
        read("h1;m0;");
        dueLozenges(0);
        x.needs(0, 1);
        dueLozenges(NONE);
        due("lozenges, BAD", x.lozenges(-2), BAD);
        due("lozenges, BAD", x.lozenges(4), BAD);
    }

    private void promise22() {
        fresh();
        due("later, BAD", x.later(0, 0), BAD);
        read("h2;m17;d5,3;");
        int[] breaths = {5, 3, 1, 1, 4, 2, 0, 0, 3, 1, 4};
        for (int d = 0; d < breaths.length; d++) {
            due("later " + d, x.later(0, d), breaths[d]);
        }
        due("later 40", x.later(0, 40), 4);
        due("later, BAD", x.later(0, 41), BAD);
        due("later, BAD", x.later(0, -1), BAD);
        due("later, BAD", x.later(1, 0), BAD);
        due("later, BAD", x.later(-1, 0), BAD);
        x.speak(0);
        due("from this day on", x.later(0, 3), 4);
    }

    private void promise23() {
        fresh();
        due("carried, STATE ahead of BAD", x.carried(-1), STATE);
        read("h2;m17;d5,3;");
        int[] often = {0, 0, 1, 1, 1, 1, 2};
        for (int d = 0; d < often.length; d++) {
            due("carried " + d, x.carried(d), often[d]);
        }
        due("carried 40", x.carried(40), 13);
        due("carried, BAD", x.carried(41), BAD);
        due("carried, BAD", x.carried(-1), BAD);
        x.speak(1);
        x.speak(1);
        due("those before do not count", x.carried(4), 1);
    }

    private void promise24() {
        fresh();
        x.row(0, 0, 3);
        setItems(0, 1, 0, 2);
        due("fits, BAD", x.fits(0, 0, 0, 1, 0), BAD);
        read("h2;m17;d5,3;");
        due("breaths, carried", x.fits(0, 0, 0, 1, 0), 12);
        due("breaths, not carried", x.fits(0, 0, 1, 1, 0), 2097139);
        due("breaths, neither", x.fits(0, 0, 2, 1, 0), 0);
        due("sorts, carried", x.fits(0, 0, 0, 1, 1), 4);
        due("sorts, not carried", x.fits(0, 0, 1, 1, 1), 58);
        x.row(1, 2, 2);
        setItems(1, 0, 1);
        due("breaths, two days", x.fits(0, 1, 0, 2, 0), 48);
        x.row(2, 1, 13);
        setItems(2, 0, 1, 0, 0, 0, 1, 0, 0, 1, 0, 0, 1, 0);
        due("breaths, twelve days", x.fits(0, 2, 0, 12, 0), 32);
        due("fits, BAD n", x.fits(0, 2, 0, 13, 0), BAD);
        due("fits, BAD n", x.fits(0, 2, 0, 0, 0), BAD);
        due("fits, BAD n", x.fits(0, 2, 0, -1, 0), BAD);
        due("fits, BAD member", x.fits(1, 0, 0, 1, 0), BAD);
        due("fits, BAD member", x.fits(-1, 0, 0, 1, 0), BAD);
        due("fits, BAD row", x.fits(0, 8, 0, 1, 0), BAD);
        due("fits, BAD row", x.fits(0, -1, 0, 1, 0), BAD);
        due("fits, BAD what ahead of NULL", x.fits(0, 3, 0, 1, 2), BAD);
        due("fits, NULL ahead of PLACE", x.fits(0, 3, -1, 1, 0), NULL);
        due("status", x.status(), 1);
        due("fits, PLACE", x.fits(0, 0, 2, 2, 1), PLACE);
        due("fits, PLACE", x.fits(0, 0, 3, 1, 1), PLACE);
        due("fits, PLACE", x.fits(0, 0, -1, 1, 1), PLACE);
        due("fits, PLACE", x.fits(0, 0, MAX, 1, 1), PLACE);
        due("fits, PLACE", x.fits(0, 0, MIN, 12, 1), PLACE);
        due("status", x.status(), 2);
        due("what is foretold changed nothing", x.kind(0), 3);
        due("what is foretold changed nothing", x.member(0, 0), 5);
    }

    private void promise25() {
        fresh();
        due("costs, STATE ahead of BAD", x.costs(8, 0, 0), STATE);
        read("h2;m15;p5,0;");
        x.row(0, 0, 3);
        setItems(0, 1, 0, 3);
        x.row(1, 2, 2);
        setItems(1, 1, 1);
        due("costs, carried", x.costs(0, 0, 1), 62);
        due("costs, not carried", x.costs(0, 1, 1), 960);
        due("costs, neither", x.costs(0, 2, 1), 0);
        due("costs, two days", x.costs(0, 0, 2), 56);
        due("costs, two days", x.costs(1, 0, 2), 6);
        due("costs, BAD", x.costs(8, 0, 1), BAD);
        due("costs, BAD", x.costs(-1, 0, 1), BAD);
        due("costs, BAD", x.costs(0, 0, 0), BAD);
        due("costs, BAD n ahead of NULL", x.costs(2, 0, 13), BAD);
        due("costs, NULL ahead of PLACE", x.costs(2, -1, 1), NULL);
        due("costs, PLACE", x.costs(0, 0, 4), PLACE);
        due("costs, PLACE", x.costs(0, -1, 1), PLACE);
        due("costs, PLACE", x.costs(0, MAX, 12), PLACE);
        due("cost as it was", x.count(4), 2);
    }

    private void dueColds(int c, int above, int below) {
        due("colds above, " + c, x.colds(c, 0), above);
        due("colds below, " + c, x.colds(c, 1), below);
    }

    private void promise26() {
        fresh();
        due("colds, STATE ahead of BAD", x.colds(-1, 2), STATE);
        read("h5;m15;p5,0;");
        dueColds(3, 7, 10);
        dueColds(5, 1, 2);
        dueColds(0, 1, 1);
        dueColds(10, 0, 1);
        read("h5;m15;p5,0;p5,0;");
        dueColds(3, 91, 100);
        read("h1;m15;p9,0;");
        dueColds(3, 3, 10);
        read("h5;m15;p10,0;");
        dueColds(3, 3, 10);
        read("h5;m60;p5,0;p5,0;p5,0;p5,0;");
        dueColds(3, 2401, 10000);
        read("h1;m0;");
        dueColds(7, 1, 1);
        x.needs(0, 1);
        dueColds(7, 0, 1);
        due("colds, BAD", x.colds(-1, 0), BAD);
        due("colds, BAD", x.colds(11, 0), BAD);
        due("colds, BAD", x.colds(1, 2), BAD);
        due("colds, BAD", x.colds(1, -1), BAD);
    }

    private void promise27() {
        fresh();
        due("drawn, STATE ahead of BAD", x.drawn(-1, 0, 2), STATE);
        // The draws of 1 leave 7, 1, 9, 10.
        read("h1;m15;p10,0;p10,0;l10,0;i3,2;");
        due("drawn, how often", x.drawn(1, 1, 0), 1);
        due("drawn, how often", x.drawn(2, 1, 0), 1);
        due("drawn, how often", x.drawn(4, 1, 0), 3);
        due("drawn, breath", x.drawn(4, 1, 1), 30);
        due("drawn, no day", x.drawn(0, 1, 0), 0);
        due("drawn, no day", x.drawn(0, 1, 1), 33);
        due("drawn, the widest", x.drawn(60, 999999, 0) >= 0 ? 1 : 0, 1);
        due("drawn, BAD", x.drawn(-1, 1, 0), BAD);
        due("drawn, BAD", x.drawn(61, 1, 0), BAD);
        due("drawn, BAD", x.drawn(1, 0, 0), BAD);
        due("drawn, BAD", x.drawn(1, 1000000, 0), BAD);
        due("drawn, BAD", x.drawn(1, 1, 2), BAD);
        due("drawn, BAD", x.drawn(1, 1, -1), BAD);
        read("h9;m5;p8,0;i0,9;");
        due("who can not speak stays silent", x.drawn(1, 1, 0), 1);
        due("who can not speak stays silent", x.drawn(1, 1, 1), 8);
    }

    private void promise28() {
        fresh();
        due("image, STATE", x.image(0), STATE);
        due("image, BAD ahead of STATE", x.image(2), BAD);
        due("image, BAD ahead of STATE", x.image(-1), BAD);
        read(FOUR);
        due("image", x.image(0), 1);
        x.cold(0, 1);
        due("an image is no act", x.count(6), 1);
        due("image", x.image(1), 1);
        due("an image leaves acts", x.count(6), 1);
        x.cold(0, 2);
        x.restore(0);
        due("the first image", x.member(0, 0), 6);
        x.restore(1);
        due("the second image", x.member(0, 0), 1);
        x.cold(0, 9);
        due("image in place of another", x.image(1), 1);
        x.cold(0, 0);
        x.restore(1);
        due("the latest image", x.member(0, 0), 9);
        due("image, BAD", x.image(2), BAD);
        due("image, BAD", x.image(-1), BAD);
    }

    private void promise29() {
        fresh();
        due("restore, BAD ahead of STATE", x.restore(2), BAD);
        due("restore, BAD ahead of STATE", x.restore(-1), BAD);
        read(FOUR);
        x.needs(0, 3);
        due("speak", x.speak(1), 1);
        x.image(1);
        due("restore, STATE", x.restore(0), STATE);
        due("what is refused changes nothing", x.count(6), 2);
        due("read another", read("h9;m50;i1,1;"), 1);
        x.speak(0);
        due("restore", x.restore(1), 1);
        due("acts", x.count(6), 0);
        due("undo", x.undo(), STATE);
        due("motions", x.count(1), 3);
        due("members", x.count(2), 4);
        due("day", x.count(3), 1);
        due("cost", x.count(4), 4);
        due("carried", x.count(8), 1);
        due("needs", x.motion(0), 3);
        due("needs", x.motion(2), 33);
        dueBreaths(2, 15, 3, 10);
        due("kind", x.kind(3), 5);
        due("mends", x.member(2, 1), 5);
        x.speak(0);
        x.cold(3, 0);
        due("restore once more", x.restore(1), 1);
        dueBreaths(2, 15, 3, 10);
    }

    private void promise30() {
        fresh();
        due("kind, BAD", x.kind(0), BAD);
        read(FOUR);
        int[] kinds = {1, 2, 3, 5};
        for (int m = 0; m < 4; m++) {
            due("kind", x.kind(m), kinds[m]);
        }
        due("kind, BAD", x.kind(4), BAD);
        due("kind, BAD", x.kind(-1), BAD);
        read("h1;m1;i1,1;");
        due("kind", x.kind(0), 4);
        due("kind, BAD", x.kind(1), BAD);
    }

    private void dueKinds(int member, int... kinds) {
        for (int kind = 0; kind <= 5; kind++) {
            boolean is = false;
            for (int own : kinds) {
                is |= own == kind;
            }
            due("as " + kind, x.as(member, kind), is ? member : KIND);
            due("status", x.status(), is ? 0 : 3);
        }
    }

    private void promise31() {
        fresh();
        due("as, BAD", x.as(0, 0), BAD);
        read(FOUR);
        dueKinds(0, 0, 1);
        dueKinds(1, 0, 1, 2);
        dueKinds(2, 0, 1, 3);
        dueKinds(3, 0, 4, 5);
        due("as, BAD", x.as(0, 6), BAD);
        due("as, BAD", x.as(0, -1), BAD);
        due("as, BAD", x.as(4, 0), BAD);
        due("as, BAD", x.as(-1, 0), BAD);
        read("h1;m1;i1,1;");
        dueKinds(0, 0, 4);
    }

    private void dueAsk(int member, int what, int answer, int... trace) {
        due("ask", x.ask(member, what), answer);
        dueTrace(trace);
    }

    private void dueTrace(int... trace) {
        for (int i = 0; i <= 17; i++) {
            due("trace " + i, x.trace(i), i < trace.length ? trace[i] : NONE);
        }
    }

    private void promise32() {
        fresh();
        due("ask, BAD", x.ask(0, 0), BAD);
        read("h1;m1;p3,1;l4,2;d5,3;r6,4;");
        dueAsk(0, 0, 4, 11, 10, 21, 20);
        dueAsk(0, 1, 3, 21, 20);
        dueAsk(1, 0, -12, 12, 11, 10, 24, 21, 20);
        dueAsk(1, 1, 10, 24, 21, 20);
        dueAsk(2, 0, -990, 11, 10, 22, 21, 20);
        dueAsk(2, 1, -993, 22, 21, 20);
        dueAsk(3, 0, -192, 14, 13, 10);
        dueAsk(3, 1, 195, 23, 20, 14, 13, 10);
        due("ask, BAD", x.ask(4, 0), BAD);
        due("ask, BAD", x.ask(-1, 0), BAD);
        due("ask, BAD", x.ask(0, 2), BAD);
        due("ask, BAD", x.ask(0, -1), BAD);
        dueTrace(23, 20, 14, 13, 10);
        read("h1;m1;i6,4;");
        dueTrace(23, 20, 14, 13, 10);
        dueAsk(0, 0, -96, 13, 10);
        dueAsk(0, 1, 96, 23, 20, 13, 10);
        x.cold(0, 0);
        dueAsk(0, 1, 96, 23, 20, 13, 10);
    }

    private void promise33() {
        fresh(FOUR);
        due("trace", x.trace(0), NONE);
        x.ask(0, 1);
        due("trace", x.trace(0), 21);
        due("trace", x.trace(1), 20);
        due("trace, NONE", x.trace(2), NONE);
        due("trace, NONE", x.trace(-1), NONE);
        due("trace, NONE", x.trace(16), NONE);
        due("trace, NONE", x.trace(MAX), NONE);
        due("trace, NONE", x.trace(MIN), NONE);
    }

    private void promise34() {
        fresh(FOUR);
        x.row(3, 0, 0);
        x.row(5, 1, 9);
        x.row(5, 0, 1);
        x.feed('h');
        due("speak", x.speak(9), 1);
        x.lozenge(2);
        int[] counts = {2, 3, 4, 1, 4, 14, 2, 1, 1};
        for (int what = 0; what <= 8; what++) {
            due("count " + what, x.count(what), counts[what]);
        }
        due("count, BAD", x.count(9), BAD);
        due("count, BAD", x.count(-1), BAD);
        due("count, BAD", x.count(MIN), BAD);
    }

    private void promise35() {
        fresh(FOUR);
        due("status", x.status(), 0);
        x.row(0, 0, -1);
        due("status, SIZE", x.status(), 4);
        x.row(8, 0, -1);
        x.set(8, 0, 0);
        x.copy(8, 0, 0, 0, 0);
        x.drop(8);
        x.as(0, 6);
        x.fits(9, 0, 0, 1, 0);
        x.costs(8, 0, 1);
        x.speak(16);
        x.undo();
        x.lozenge(0);
        x.hill();
        due("status of the latest that was not refused", x.status(), 4);
        x.row(0, 0, 2);
        due("status, none", x.status(), 0);
        x.set(0, 2, 0);
        due("status, PLACE", x.status(), 2);
        x.set(0, 1, 0);
        due("status, none", x.status(), 0);
        x.row(1, 1, 2);
        x.copy(0, 0, 1, 0, 1);
        due("status, STORE", x.status(), 5);
        x.copy(0, 0, 0, 1, 1);
        due("status, none", x.status(), 0);
        x.drop(7);
        due("status, NULL", x.status(), 1);
        x.drop(1);
        due("status, none", x.status(), 0);
        x.as(0, 5);
        due("status, KIND", x.status(), 3);
        x.as(0, 0);
        due("status, none", x.status(), 0);
        x.fits(0, 1, 0, 1, 0);
        due("status, NULL", x.status(), 1);
        x.fits(0, 0, 0, 1, 0);
        due("status, none", x.status(), 0);
        x.costs(0, 2, 1);
        due("status, PLACE", x.status(), 2);
        x.costs(0, 0, 1);
        due("status, none", x.status(), 0);
        fresh();
        x.drop(0);
        due("costs, STATE", x.costs(0, 0, 1), STATE);
        due("status of the latest that was not refused", x.status(), 1);
    }

    private void foretoldChangesNothing() {
        fresh(FOUR);
        x.speak(9);
        x.row(0, 0, 12);
        for (int round = 0; round < 2; round++) {
            x.power(0, 0);
            x.fewest(0);
            x.plan(4, -1);
            x.agenda(-1);
            x.lozenges(-1);
            x.later(0, 40);
            x.carried(40);
            x.fits(2, 0, 0, 12, 0);
            x.fits(2, 0, 0, 12, 1);
            x.costs(0, 0, 12);
            x.colds(5, 0);
            x.drawn(60, 5, 0);
        }
        dueBreaths(2, 15, 3, 9);
        int[] counts = {1, 3, 4, 1, 4, 10, 1, 0, 1};
        for (int what = 0; what <= 8; what++) {
            due("count " + what, x.count(what), counts[what]);
        }
        due("kind", x.kind(2), 3);
        due("undo", x.undo(), 0);
        dueBreaths(6, 12, 3, 9);
    }
}
