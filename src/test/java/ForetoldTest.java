/** Part 3 of "Terms", sentence by sentence: all that is foretold, at the ends of what it is told for. */
public final class ForetoldTest extends Trial {
    private static final String FOUR_MILD = "i0,0;i0,0;i0,0;i0,0;";
    private static final int ALL_BREATHS = 2097151, ALL_SORTS = 62, ALL_COSTS = 1022;

    public static void main(String[] args) {
        ForetoldTest test = new ForetoldTest();
        test.powerInAllOrders();
        test.powerOfWhoCanNotSpeak();
        test.fewestAndOfSeveralTheLeast();
        test.fewestOfThoseWhoCan();
        test.planFor1To4Days();
        test.planOfSeveralTheFirst();
        test.planFromNowOn();
        test.planOfEachMember();
        test.agendaOfAllMotions();
        test.agendaFromThisDay();
        test.lozengesTheFewest();
        test.lozengesByWhichNothingTurns();
        test.laterBy0To40Days();
        test.breathsAreBits0To20();
        test.sortsAreBits1To5();
        test.costsAreBits1To9();
        test.rowsTell1To12Days();
        test.itemsThatTellNothing();
        test.coldsBy0To10();
        test.coldsLeave0AtLeast();
        test.sessionsOf0To60Days();
        test.sessionsByASeed();
        test.withoutMembers();
        test.thisDaysMotion();
        test.checks.end();
    }

    private void duePower(int member, int above, int below) {
        due("power above", x.power(member, 0), above);
        due("power below", x.power(member, 1), below);
    }

    private void powerInAllOrders() {
        fresh("h1;m15;p1,0;i0,0;i0,0;i0,0;");
        duePower(0, 3, 4);
        duePower(1, 1, 12);
        duePower(3, 1, 12);
        x.needs(0, 16);
        duePower(0, 1, 1);
        duePower(2, 0, 1);
        x.needs(0, 34);
        duePower(0, 1, 4);
        duePower(3, 1, 4);
        x.needs(0, 35);
        duePower(0, 0, 1);
        x.needs(0, 1);
        duePower(0, 1, 4);
        x.needs(0, 0);
        duePower(0, 0, 1);
        fresh("h1;m5;i0,0;");
        duePower(0, 1, 1);
        x.needs(0, 6);
        duePower(0, 0, 1);
    }

    private void powerOfWhoCanNotSpeak() {
        fresh("h1;m5;p0,0;i0,0;");
        duePower(0, 0, 1);
        duePower(1, 1, 1);
        x.needs(0, 20);
        duePower(0, 0, 1);
        duePower(1, 0, 1);
        fresh("h1;m0;p0,0;l1,0;");
        duePower(0, 0, 1);
        duePower(1, 0, 1);
        // The one who can not speak makes the priest heavier, but stands in no order.
        fresh("h1;m6;p0,0;r0,0;");
        duePower(1, 1, 1);
        duePower(0, 0, 1);
    }

    private void dueFewest(int howMany, int who) {
        due("fewest, how many", x.fewest(0), howMany);
        due("fewest, who", x.fewest(1), who);
    }

    private void fewestAndOfSeveralTheLeast() {
        fresh("h1;m0;" + FOUR_MILD);
        int[] who = {0, 1, 3, 7, 15};
        for (int need = 0; need <= 20; need++) {
            x.needs(0, need);
            int many = (need + 4) / 5;
            dueFewest(many, who[many]);
        }
        x.needs(0, 21);
        dueFewest(NONE, NONE);
        fresh("h1;m9;p15,0;i0,0;p10,0;p11,0;");
        dueFewest(1, 4);
        x.needs(0, 14);
        dueFewest(2, 5);
        x.needs(0, 19);
        dueFewest(2, 12);
        x.needs(0, 29);
        dueFewest(4, 15);
        x.needs(0, 30);
        dueFewest(NONE, NONE);
    }

    private void fewestOfThoseWhoCan() {
        fresh("h9;m11;p8,0;p9,0;");
        dueFewest(1, 2);
        x.needs(0, 12);
        dueFewest(NONE, NONE);
        x.needs(0, 0);
        dueFewest(0, 0);
        fresh("h9;m0;p8,0;");
        dueFewest(0, 0);
        x.needs(0, 1);
        dueFewest(NONE, NONE);
    }

    private void duePlan(int most, int... sets) {
        int n = sets.length;
        due("plan " + n, x.plan(n, -1), most);
        for (int k = 0; k < 4; k++) {
            due("plan " + n + ", day " + k, x.plan(n, k), k < n ? sets[k] : NONE);
        }
    }

    private void planFor1To4Days() {
        fresh("h5;m15;p5,0;");
        due("0 days", x.plan(0, -1), BAD);
        duePlan(1, 1);
        duePlan(1, 0, 1);
        duePlan(1, 0, 0, 1);
        duePlan(1, 0, 0, 0, 1);
        due("5 days", x.plan(5, -1), BAD);
        fresh("h5;m15;p5,5;");
        duePlan(1, 1);
        duePlan(1, 1, 0);
        duePlan(2, 1, 0, 1);
        duePlan(2, 1, 0, 1, 0);
    }

    private void planOfSeveralTheFirst() {
        fresh("h1;m0;" + FOUR_MILD);
        duePlan(4, 0, 0, 0, 0);
        x.needs(0, 5);
        duePlan(4, 1, 1, 1, 1);
        x.needs(0, 6);
        duePlan(3, 3, 3, 3);
        x.needs(0, 20);
        duePlan(4, 15, 15, 15, 15);
        x.needs(0, 21);
        duePlan(0, 0, 0, 0, 0);
        // 5, 10: the second alone is a greater set than the first, but the first is not enough.
        fresh("h1;m10;i0,0;p10,0;");
        duePlan(1, 2);
        fresh("h5;m15;p5,0;p5,0;");
        duePlan(2, 1, 2);
        duePlan(2, 0, 1, 2);
        duePlan(2, 0, 0, 1, 2);
    }

    private void planFromNowOn() {
        fresh("h1;m0;m99;m5;m10;i0,0;i0,0;");
        duePlan(3, 0, 0, 1, 3);
        x.speak(0);
        duePlan(3, 0, 1, 3, 0);
        x.speak(0);
        duePlan(2, 1, 3);
        // A dry one who mends on DAY 1 alone has breath for DAY 2, and not for DAY 1.
        fresh("h5;m15;d0,5;");
        duePlan(0, 0, 0);
        duePlan(1, 0, 0, 1);
        x.speak(0);
        duePlan(1, 0, 1);
    }

    /** He rests on the second DAY and speaks anew; the others never can. */
    private void planOfEachMember() {
        for (int m = 0; m < 4; m++) {
            fresh("h5;m15;" + "p0,0;".repeat(m) + "p5,5;" + "p0,0;".repeat(3 - m));
            duePlan(2, 1 << m, 0, 1 << m, 0);
        }
    }

    private void dueAgenda(int most, int... order) {
        due("agenda", x.agenda(-1), most);
        for (int k = 0; k < 4; k++) {
            due("agenda " + k, x.agenda(k), k < order.length ? order[k] : NONE);
        }
    }

    private void agendaOfAllMotions() {
        fresh("h1;m99;p4,0;");
        dueAgenda(0, 0);
        fresh("h1;m16;p4,0;");
        dueAgenda(1, 0);
        fresh("h1;m17;m16;p4,0;");
        dueAgenda(2, 1, 0);
        fresh("h1;m17;m18;m16;p4,0;");
        dueAgenda(3, 2, 0, 1);
        fresh("h1;m19;m18;m17;m16;p4,0;");
        dueAgenda(4, 3, 2, 1, 0);
        fresh("h1;m5;m5;m5;m5;i0,0;");
        dueAgenda(4, 0, 1, 2, 3);
        fresh("h1;m6;m6;m6;m6;i0,0;");
        dueAgenda(0, 0, 1, 2, 3);
        // 19 today, then nobody can: the first motion is carried at any time, the second only today.
        fresh("h1;m0;m19;m99;p1,0;");
        dueAgenda(2, 1, 0, 2);
    }

    private void agendaFromThisDay() {
        fresh("h5;m15;m0;d0,5;");
        dueAgenda(1, 0, 1);
        x.speak(0);
        due("DAY 1, on which he mends", x.count(3), 1);
        dueAgenda(2, 1, 0);
    }

    private void dueLozenges(int fewest, int... given) {
        due("lozenges", x.lozenges(-1), fewest);
        for (int k = 0; k < 4; k++) {
            due("lozenges " + k, x.lozenges(k), k < given.length ? given[k] : NONE);
        }
    }

    private void lozengesTheFewest() {
        fresh("h9;m0;l0,0;l0,0;l0,0;l0,0;");
        dueLozenges(0, 0, 0, 0, 0);
        x.needs(0, 1);
        dueLozenges(2, 0, 0, 0, 2);
        x.needs(0, 20);
        dueLozenges(2, 0, 0, 0, 2);
        x.needs(0, 21);
        dueLozenges(4, 0, 0, 2, 2);
        x.needs(0, 60);
        dueLozenges(6, 0, 2, 2, 2);
        x.needs(0, 80);
        dueLozenges(8, 2, 2, 2, 2);
        x.needs(0, 81);
        dueLozenges(NONE);
        fresh("h9;m11;p4,0;p5,0;p4,0;");
        dueLozenges(1, 0, 0, 1);
        x.cold(2, 0);
        dueLozenges(1, 1, 0, 0);
    }

    private void lozengesByWhichNothingTurns() {
        fresh("h5;m15;p5,0;");
        dueLozenges(0, 0);
        x.needs(0, 16);
        dueLozenges(NONE);
        fresh("h5;m15;p0,0;");
        dueLozenges(1, 1);
        x.needs(0, 16);
        dueLozenges(NONE);
        // A priest weighs 1 less, if the other can speak.
        fresh("h5;m20;p0,0;r0,0;");
        dueLozenges(1, 1, 0);
        x.needs(0, 21);
        dueLozenges(NONE);
        x.needs(0, 6);
        dueLozenges(0, 0, 0);
    }

    private void laterBy0To40Days() {
        fresh("h9;m11;p0,9;i3,9;");
        for (int d = 0; d <= 40; d++) {
            due("later by " + d, x.later(0, d), d % 2 == 1 ? 9 : 0);
            due("who speaks each day does not mend", x.later(1, d), 3);
            due("carried in " + d, x.carried(d), d / 2);
        }
        due("41", x.later(0, 41), BAD);
        due("-1", x.later(0, -1), BAD);
        due("41", x.carried(41), BAD);
        due("-1", x.carried(-1), BAD);
        x.speak(0);
        due("from now on", x.later(0, 0), 9);
        due("from now on", x.carried(1), 1);
        due("carried before does not count", x.carried(0), 0);
        x.speak(1);
        due("carried before does not count", x.carried(0), 0);
    }

    private void breathsAreBits0To20() {
        fresh("h9;m11;p0,9;");
        x.row(0, 0, 13);
        for (int i = 1; i < 13; i += 2) {
            x.set(0, i, 1);
        }
        x.row(1, 0, 12);
        due("0 and 18", x.fits(0, 0, 0, 12, 0), 1 << 0 | 1 << 18);
        due("9", x.fits(0, 0, 1, 12, 0), 1 << 9);
        due("never: all but 0, 9, 18", x.fits(0, 1, 0, 12, 0), ALL_BREATHS - (1 << 0 | 1 << 9 | 1 << 18));
        due("today", x.fits(0, 0, 1, 1, 0), 1 << 9);
        due("not today", x.fits(0, 0, 0, 1, 0), ALL_BREATHS - (1 << 9));
        fresh("h1;m0;p5,5;");
        x.row(0, 0, 1);
        due("by none", x.fits(0, 0, 0, 1, 0), 0);
        x.set(0, 0, 1);
        due("by all", x.fits(0, 0, 0, 1, 0), ALL_BREATHS);
        dueBreaths(5);
    }

    private void sortsAreBits1To5() {
        fresh("h9;m11;p9,0;");
        x.row(0, 0, 2);
        x.set(0, 1, 1);
        due("11 by 9 breath: plain, dry", x.fits(0, 0, 1, 1, 1), 1 << 1 | 1 << 3);
        due("the others", x.fits(0, 0, 0, 1, 1), 1 << 2 | 1 << 4 | 1 << 5);
        x.needs(0, 5);
        due("all but the loud one, who can not", x.fits(0, 0, 1, 1, 1), ALL_SORTS - (1 << 2));
        x.needs(0, 0);
        due("all", x.fits(0, 0, 1, 1, 1), ALL_SORTS);
        due("none", x.fits(0, 0, 0, 1, 1), 0);
        fresh("h9;m6;p9,0;p0,0;");
        x.row(0, 0, 1);
        x.set(0, 0, 1);
        due("plain, dry, priest", x.fits(0, 0, 0, 1, 1), 1 << 1 | 1 << 3 | 1 << 5);
        due("kind", x.kind(0), 1);
    }

    private void costsAreBits1To9() {
        fresh("h9;m11;p9,0;");
        x.row(0, 2, 2);
        x.set(0, 1, 1);
        due("all", x.costs(0, 1, 1), ALL_COSTS);
        due("none", x.costs(0, 0, 1), 0);
        x.cold(0, 8);
        due("1 to 8", x.costs(0, 1, 1), ALL_COSTS - (1 << 9));
        due("9", x.costs(0, 0, 1), 1 << 9);
        x.cold(0, 1);
        due("1", x.costs(0, 1, 1), 1 << 1);
        due("2 to 9", x.costs(0, 0, 1), ALL_COSTS - (1 << 1));
        x.cold(0, 0);
        due("none", x.costs(0, 1, 1), 0);
        due("cost", x.count(4), 9);
    }

    private void rowsTell1To12Days() {
        fresh("h1;m0;p5,5;");
        x.row(0, 1, 40);
        for (int i = 0; i < 40; i++) {
            x.set(0, i, i == 27 ? 0 : 1);
        }
        for (int n = 1; n <= 12; n++) {
            due("the last " + n, x.costs(0, 40 - n, n), ALL_COSTS);
            due("the last " + n, x.fits(0, 0, 40 - n, n, 0), ALL_BREATHS);
            due("one beyond", x.costs(0, 41 - n, n), PLACE);
            due("one beyond", x.fits(0, 0, 41 - n, n, 1), PLACE);
            due("the 0 is the last of them", x.costs(0, 28 - n, n), 0);
            due("the 0 is the first of them", x.fits(0, 0, 27, n, 1), 0);
        }
        due("0 days", x.costs(0, 0, 0), BAD);
        due("13 days", x.costs(0, 0, 13), BAD);
        due("0 days", x.fits(0, 0, 0, 0, 0), BAD);
        due("13 days", x.fits(0, 0, 0, 13, 0), BAD);
        for (int n = 1; n <= 12; n++) {
            due("a sum that wraps around", x.costs(0, MAX - n + 1, n), PLACE);
            due("a sum that wraps around", x.fits(0, 0, MAX - n + 1, n, 0), PLACE);
        }
    }

    private void itemsThatTellNothing() {
        fresh("h9;m11;p0,9;");
        x.row(0, 2, 2);
        for (int item : new int[] {2, -1, 256, 65536, MIN, MAX}) {
            x.set(0, 1, item);
            due("by no cost", x.costs(0, 0, 2), 0);
            due("by no breath", x.fits(0, 0, 0, 2, 0), 0);
            due("by no sort", x.fits(0, 0, 0, 2, 1), 0);
            due("status", x.status(), 0);
            due("the one ahead of it still tells", x.fits(0, 0, 0, 1, 1), ALL_SORTS);
        }
    }

    private void dueColds(int c, int above, int below) {
        due("colds above, " + c, x.colds(c, 0), above);
        due("colds below, " + c, x.colds(c, 1), below);
    }

    private void coldsBy0To10() {
        fresh("h5;m60;p5,0;p5,0;p5,0;p5,0;");
        dueColds(0, 1, 1);
        dueColds(1, 6561, 10000);
        dueColds(5, 1, 16);
        dueColds(9, 1, 10000);
        dueColds(10, 0, 1);
        due("-1", x.colds(-1, 0), BAD);
        due("11", x.colds(11, 0), BAD);
        fresh("h1;m19;p6,0;");
        dueColds(0, 0, 1);
        dueColds(1, 1, 10);
        dueColds(4, 2, 5);
        dueColds(10, 1, 1);
        // The priest weighs 6, if the other has a cold, and is alone then.
        fresh("h1;m7;r0,0;p5,0;");
        dueColds(4, 3, 5);
        x.needs(0, 6);
        dueColds(4, 1, 1);
    }

    private void coldsLeave0AtLeast() {
        for (int breath = 0; breath <= 6; breath++) {
            fresh("h1;m5;i" + breath + ",0;");
            dueColds(10, 1, 1);
            dueColds(3, 1, 1);
            fresh("h1;m5;r" + breath + ",0;");
            dueColds(10, 1, 1);
            fresh("h1;m14;p" + breath + ",0;");
            dueColds(10, breath == 6 ? 1 : 0, 1);
            dueBreaths(breath);
        }
    }

    private void dueDrawn(int n, int seed, int often, int breath) {
        due("drawn " + n + ", how often", x.drawn(n, seed, 0), often);
        due("drawn " + n + ", breath", x.drawn(n, seed, 1), breath);
    }

    private void sessionsOf0To60Days() {
        // 16807, 282475249, 1622650073, 984943658, 1144108930 leave 7, 1, 9, 10, 2: so many of four are silent then.
        fresh("h1;m10;i0,1;i0,1;i0,1;i0,1;");
        int[] often = {0, 1, 1, 2, 3, 3};
        int[] breath = {0, 1, 4, 6, 8, 11};
        for (int n = 0; n < often.length; n++) {
            dueDrawn(n, 1, often[n], breath[n]);
        }
        fresh("h1;m0;i3,0;p0,0;l9,0;r4,0;");
        for (int n = 0; n <= 60; n++) {
            due("nothing is needed", x.drawn(n, 999999, 0), n);
        }
        due("none today", x.drawn(0, 999999, 1), 16);
        due("61", x.drawn(61, 1, 0), BAD);
        due("-1", x.drawn(-1, 1, 0), BAD);
    }

    private void sessionsByASeed() {
        for (int seed : new int[] {1, 2, 127773, 500000, 999998, 999999}) {
            for (int speakers = 0; speakers <= 4; speakers++) {
                fresh("h1;m" + 5 * speakers + ";" + FOUR_MILD);
                long draw = seed;
                int often = 0;
                for (int n = 1; n <= 60; n++) {
                    draw = draw * 16807 % 2147483647;
                    often += Long.bitCount(draw & 15) >= speakers ? 1 : 0;
                    due("seed " + seed + ", " + n + " days", x.drawn(n, seed, 0), often);
                }
            }
        }
        due("0", x.drawn(1, 0, 0), BAD);
        due("1000000", x.drawn(1, 1000000, 0), BAD);
        due("the same once more", x.drawn(60, 7, 0), x.drawn(60, 7, 0));
    }

    private void withoutMembers() {
        fresh("h1;m0;m1;");
        dueFewest(0, 0);
        duePlan(2, 0, 0, 0, 0);
        dueAgenda(1, 0, 1);
        dueLozenges(0);
        due("carried", x.carried(40), 20);
        dueColds(10, 1, 1);
        dueDrawn(60, 1, 30, 0);
        x.row(0, 0, 2);
        due("costs", x.costs(0, 0, 2), 0);
        x.set(0, 0, 1);
        due("costs", x.costs(0, 0, 2), ALL_COSTS);
        x.speak(0);
        dueFewest(NONE, NONE);
        duePlan(0, 0);
        dueLozenges(NONE);
        dueColds(0, 0, 1);
        due("carried", x.carried(1), 0);
        due("power", x.power(0, 0), BAD);
        due("later", x.later(0, 0), BAD);
        due("fits", x.fits(0, 0, 0, 1, 0), BAD);
    }

    private void thisDaysMotion() {
        fresh("h1;m5;m6;m10;i0,0;i0,0;");
        int[] many = {1, 2, 2, 1};
        for (int day = 0; day < 4; day++) {
            due("fewest on day " + day, x.fewest(0), many[day]);
            duePower(0, 1, 2);
            dueColds(5, 1, 1);
            dueLozenges(0, 0, 0);
            x.speak(0);
        }
        due("DAY 4 has the second", x.count(3), 4);
        x.needs(0, 99);
        x.needs(2, 99);
        dueFewest(2, 3);
        x.needs(1, 11);
        dueFewest(NONE, NONE);
        fresh("h1;m5;m11;i0,0;i0,0;");
        x.speak(0);
        dueFewest(NONE, NONE);
        duePower(0, 0, 1);
        dueColds(5, 0, 1);
        dueLozenges(NONE);
    }
}
