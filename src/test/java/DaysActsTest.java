/** Part 2 of "Terms", sentence by sentence: BREATH, what it costs, who CAN speak, what WEIGHS, DAYS and ACTS. */
public final class DaysActsTest extends Trial {
    public static void main(String[] args) {
        DaysActsTest test = new DaysActsTest();
        test.whatItCosts();
        test.oneCanSpeakIfHeHasSoMuch();
        test.whatSayingWeighs();
        test.aPriestWeighsMoreForWhoCanNot();
        test.weighedByBreathAhead();
        test.aDayHasItsMotion();
        test.carriedByAsMuchOrMore();
        test.whoSpokePaysWhoDidNotMends();
        test.breathIs20AtMost();
        test.aDryOneMendsOnOddDays();
        test.allWhoSpeakCanSpeak();
        test.aLozenge();
        test.aCold();
        test.needsAreOthers();
        test.eachActCanBeUndone();
        test.actsOfEachMemberAndMotionCanBeUndone();
        test.actsThatChangeNothingAreActs();
        test.actsAre24AtMost();
        test.actsBehindSomeThatWereUndone();
        test.whatIsRefusedIsNoAct();
        test.restoredHillsHaveNoActs();
        test.eachImageByItself();
        test.checks.end();
    }

    private void whatItCosts() {
        for (int cost = 1; cost <= 9; cost++) {
            fresh("h" + cost + ";m0;p20,0;l20,0;d20,0;i20,0;");
            int[] each = {cost, cost + 1, cost, 0};
            for (int m = 0; m < 4; m++) {
                due("it costs", x.member(m, 4), each[m]);
            }
            x.speak(15);
            dueBreaths(20 - cost, 19 - cost, 20 - cost, 20);
            fresh("h" + cost + ";m0;r20,0;");
            due("it costs a priest", x.member(0, 4), 0);
            x.speak(1);
            dueBreaths(20);
        }
    }

    private void oneCanSpeakIfHeHasSoMuch() {
        for (int cost = 1; cost <= 9; cost++) {
            int[] prices = {cost, cost + 1, cost, 0, 0};
            for (int sort = 0; sort < 5; sort++) {
                for (int breath = 0; breath <= 11; breath++) {
                    fresh("h" + cost + ";m0;" + "pldir".charAt(sort) + breath + ",0;");
                    int can = breath >= prices[sort] ? 1 : 0;
                    due("he can", x.member(0, 2), can);
                    due("who can", x.count(5), can);
                    due("he speaks", x.speak(1), can == 1 ? 1 : STATE);
                    dueBreaths(can == 1 ? breath - prices[sort] : breath);
                }
            }
        }
    }

    private void whatSayingWeighs() {
        for (int breath = 0; breath <= 20; breath++) {
            String each = breath + ",0;";
            fresh("h1;m0;p" + each + "l" + each + "d" + each + "i" + each);
            int[] weighs = {20 - breath, 2 * (20 - breath), 20 - breath, 5};
            for (int m = 0; m < 4; m++) {
                due("weighs, whether he can or not", x.member(m, 3), weighs[m]);
                due("weight, whether he can or not", x.weight(1 << m), weighs[m]);
            }
            due("together", x.weight(15), 4 * (20 - breath) + 5);
            due("of none", x.weight(0), 0);
            fresh("h9;m0;r" + each);
            due("a priest alone", x.member(0, 3), 5);
        }
    }

    private void aPriestWeighsMoreForWhoCanNot() {
        fresh("h1;m0;r0,0;p0,0;l1,0;d0,0;");
        due("three can not", x.member(0, 3), 8);
        x.lozenge(1);
        due("two can not", x.member(0, 3), 7);
        x.lozenge(2);
        due("one can not", x.member(0, 3), 6);
        x.lozenge(3);
        due("all can", x.member(0, 3), 5);
        fresh("h1;m0;r0,0;r0,0;p0,0;i0,0;");
        due("two priests, the first", x.weight(1), 6);
        due("two priests, both", x.weight(3), 12);
        due("a mild one is no priest", x.weight(8), 5);
        fresh("h1;m6;r0,0;p1,0;");
        due("who can, but is silent, makes it no heavier", x.speak(1), 0);
        x.cold(1, 0);
        due("who can not does", x.speak(1), 1);
    }

    private void weighedByBreathAhead() {
        fresh("h5;m16;p5,0;");
        due("15 for 16", x.speak(1), 0);
        due("it would be 20 behind it", x.member(0, 3), 20);
        fresh("h5;m6;p5,0;r0,0;");
        due("the priest weighs 5, as all can ahead of it", x.speak(2), 0);
        fresh("h5;m21;p5,0;r0,0;");
        due("15 and 5 for 21, though he can not any more", x.speak(3), 0);
        due("then 6", x.member(1, 3), 6);
    }

    private void aDayHasItsMotion() {
        for (int motions = 1; motions <= 4; motions++) {
            for (int easy = 0; easy < motions; easy++) {
                StringBuilder text = new StringBuilder("h1;");
                for (int m = 0; m < motions; m++) {
                    text.append(m == easy ? "m0;" : "m1;");
                }
                fresh(text.toString());
                for (int day = 0; day < 10; day++) {
                    due("DAY", x.count(3), day);
                    due("day " + day + " of " + text, x.speak(0), day % motions == easy ? 1 : 0);
                }
                due("DAY", x.count(3), 10);
                due("carried in all", x.count(8), (10 - easy + motions - 1) / motions);
            }
        }
    }

    private void carriedByAsMuchOrMore() {
        for (int breath = 1; breath <= 20; breath++) {
            for (int difference = -1; difference <= 1; difference++) {
                int need = 20 - breath + difference;
                if (need < 0) {
                    continue;
                }
                fresh("h1;m" + need + ";p" + breath + ",0;");
                due("weighs " + (20 - breath) + " for " + need, x.speak(1), difference <= 0 ? 1 : 0);
                due("carried in all", x.count(8), difference <= 0 ? 1 : 0);
            }
        }
        fresh("h1;m0;p5,0;");
        due("nobody for 0", x.speak(0), 1);
        fresh("h1;m1;p5,0;");
        due("nobody for 1", x.speak(0), 0);
        fresh("h1;m99;l2,0;l2,0;l8,0;p20,0;");
        due("36, 36, 24 and 0 for 99", x.speak(15), 0);
        x.cold(0, 2);
        x.cold(1, 2);
        x.cold(2, 7);
        x.cold(3, 19);
        due("36, 36, 26 and 1 for 99", x.speak(15), 1);
    }

    private void whoSpokePaysWhoDidNotMends() {
        fresh("h3;m0;p3,9;l4,8;d3,7;i0,6;");
        x.speak(15);
        dueBreaths(0, 0, 0, 0);
        x.speak(0);
        dueBreaths(9, 8, 7, 6);
        x.speak(10);
        dueBreaths(18, 4, 7, 6);
        due("MENDS stay", x.member(1, 1), 8);
        fresh("h1;m0;p4,0;r4,0;");
        x.speak(0);
        dueBreaths(4, 4);
        fresh("h1;m0;r4,9;i4,9;");
        x.speak(1);
        dueBreaths(4, 13);
    }

    private void breathIs20AtMost() {
        for (int breath = 9; breath <= 20; breath++) {
            fresh("h1;m0;p" + breath + ",9;l" + breath + ",1;i" + breath + ",0;r" + breath + ",9;");
            x.speak(0);
            dueBreaths(Math.min(20, breath + 9), Math.min(20, breath + 1), breath, Math.min(20, breath + 9));
        }
        fresh("h9;m0;d20,9;");
        x.speak(0);
        x.speak(0);
        dueBreaths(20);
    }

    private void aDryOneMendsOnOddDays() {
        fresh("h1;m0;d0,2;p0,2;");
        int[] dry = {0, 2, 2, 4, 4, 6};
        for (int day = 0; day < dry.length; day++) {
            x.speak(0);
            dueBreaths(dry[day], 2 * (day + 1));
        }
        x.speak(0);
        x.speak(1);
        dueBreaths(5, 16);
        // By the DAY, not by the MOTION: of three motions DAY 3 has the first.
        fresh("h1;m0;m0;m0;d0,2;");
        for (int day = 0; day < 3; day++) {
            x.speak(0);
        }
        dueBreaths(2);
        x.speak(0);
        dueBreaths(4);
        x.undo();
        x.undo();
        dueBreaths(2);
        x.speak(0);
        dueBreaths(2);
    }

    private void allWhoSpeakCanSpeak() {
        fresh("h2;m0;p1,0;l3,0;d2,0;i0,0;");
        int able = 14;
        due("who can", x.count(5), able);
        for (int set = 0; set < 16; set++) {
            int answer = x.speak(set);
            due("speak " + set, answer, (set & ~able) == 0 ? 1 : STATE);
            if (answer != STATE) {
                due("undo", x.undo(), 0);
            }
            dueBreaths(1, 3, 2, 0);
        }
    }

    private void aLozenge() {
        for (int breath = 0; breath <= 20; breath++) {
            for (String sort : new String[] {"p", "l", "d", "i", "r"}) {
                fresh("h1;m0;p3,0;" + sort + breath + ",9;");
                due("lozenge", x.lozenge(1), Math.min(20, breath + 5));
                dueBreaths(3, Math.min(20, breath + 5));
                due("it takes no DAY", x.count(3), 0);
            }
        }
    }

    private void aCold() {
        fresh("h1;m0;p3,0;r20,9;");
        int before = 20;
        for (int breath = 0; breath <= 20; breath++) {
            due("cold", x.cold(1, breath), before);
            dueBreaths(3, breath);
            before = breath;
        }
        due("21", x.cold(1, 21), BAD);
        due("-1", x.cold(1, -1), BAD);
        dueBreaths(3, 20);
        due("it takes no DAY", x.count(3), 0);
    }

    private void needsAreOthers() {
        fresh("h1;m10;m20;m30;m40;");
        for (int motion = 0; motion < 4; motion++) {
            due("needs", x.needs(motion, 99 - motion), 10 * (motion + 1));
            due("needs", x.needs(motion, 0), 99 - motion);
            due("100", x.needs(motion, 100), BAD);
            due("-1", x.needs(motion, -1), BAD);
            due("motion", x.motion(motion), 0);
            for (int other = motion + 1; other < 4; other++) {
                due("no other", x.motion(other), 10 * (other + 1));
            }
        }
        due("a fifth", x.needs(4, 0), BAD);
        due("it takes no DAY", x.count(3), 0);
    }

    private void eachActCanBeUndone() {
        fresh("h1;m0;m99;p9,4;d5,3;");
        x.speak(1);
        x.speak(0);
        dueBreaths(12, 8);
        due("carried", x.count(8), 1);
        due("undo a day", x.undo(), 1);
        dueBreaths(8, 5);
        due("DAY", x.count(3), 1);
        due("carried", x.count(8), 1);
        due("undo a day that was carried", x.undo(), 0);
        dueBreaths(9, 5);
        due("DAY", x.count(3), 0);
        due("carried", x.count(8), 0);
        x.lozenge(1);
        x.cold(0, 0);
        x.needs(1, 7);
        due("undo needs", x.undo(), 2);
        due("needs", x.motion(1), 99);
        dueBreaths(0, 10);
        due("undo a cold", x.undo(), 1);
        dueBreaths(9, 10);
        due("undo a lozenge", x.undo(), 0);
        dueBreaths(9, 5);
        due("nothing more", x.undo(), STATE);
        dueBreaths(9, 5);
        x.cold(0, 18);
        x.lozenge(0);
        due("a lozenge that was cut", x.undo(), 1);
        dueBreaths(18, 5);
    }

    private void actsOfEachMemberAndMotionCanBeUndone() {
        fresh("h1;m10;m20;m30;m40;p3,1;l5,2;d7,3;r9,4;");
        int[] breaths = {3, 5, 7, 9};
        for (int k = 0; k < 4; k++) {
            x.needs(k, 99);
            x.cold(k, 20);
            x.lozenge(3 - k);
            x.speak(1 << k);
        }
        for (int left = 15; left >= 0; left--) {
            due("undo", x.undo(), left);
        }
        for (int k = 0; k < 4; k++) {
            due("needs of " + k, x.motion(k), 10 * (k + 1));
        }
        dueBreaths(breaths);
    }

    private void actsThatChangeNothingAreActs() {
        fresh("h1;m7;p20,0;");
        x.lozenge(0);
        due("a lozenge at 20", x.count(6), 1);
        x.cold(0, 20);
        due("a cold of as much", x.count(6), 2);
        x.needs(0, 7);
        due("needs of as much", x.count(6), 3);
        x.speak(0);
        due("a day of nobody", x.count(6), 4);
        for (int left = 3; left >= 0; left--) {
            due("undo", x.undo(), left);
        }
    }

    private void actsAre24AtMost() {
        for (int acts : new int[] {0, 1, 23, 24, 25, 47, 48, 49, 70}) {
            fresh("h1;m0;");
            for (int act = 1; act <= acts; act++) {
                due("needs", x.needs(0, act), act - 1);
                due("acts", x.count(6), Math.min(24, act));
            }
            int kept = Math.min(24, acts);
            for (int left = kept - 1; left >= 0; left--) {
                due("undo", x.undo(), left);
                due("needs", x.motion(0), acts - kept + left);
            }
            due("the oldest is forgotten", x.undo(), STATE);
            due("needs", x.motion(0), acts - kept);
            due("acts", x.count(6), 0);
        }
        // Acts of all sorts share the 24.
        fresh("h1;m50;p1,0;");
        for (int round = 0; round < 7; round++) {
            x.speak(0);
            x.lozenge(0);
            x.cold(0, round);
            x.needs(0, round);
        }
        for (int left = 23; left >= 0; left--) {
            due("undo", x.undo(), left);
        }
        due("the oldest are forgotten", x.undo(), STATE);
        due("DAY", x.count(3), 1);
        dueBreaths(0);
        due("needs", x.motion(0), 0);
    }

    private void actsBehindSomeThatWereUndone() {
        fresh("h1;m0;");
        for (int act = 1; act <= 30; act++) {
            x.needs(0, act);
        }
        for (int undone = 1; undone <= 10; undone++) {
            due("undo", x.undo(), 24 - undone);
        }
        for (int act = 51; act <= 55; act++) {
            x.needs(0, act);
        }
        due("acts", x.count(6), 19);
        for (int left = 18; left >= 0; left--) {
            due("undo", x.undo(), left);
            due("needs", x.motion(0), left > 14 ? 36 + left : left == 14 ? 20 : 6 + left);
        }
        due("nothing more", x.undo(), STATE);
        due("undo undoes no undo", x.motion(0), 6);
    }

    private void whatIsRefusedIsNoAct() {
        fresh("h5;m7;p4,0;");
        x.cold(0, 3);
        x.speak(1);
        x.speak(2);
        x.speak(-1);
        x.lozenge(1);
        x.cold(0, 21);
        x.cold(1, 1);
        x.needs(0, 100);
        x.needs(1, 1);
        due("acts", x.count(6), 1);
        due("undo", x.undo(), 0);
        dueBreaths(4);
    }

    private void restoredHillsHaveNoActs() {
        fresh("h1;m0;m5;p9,4;");
        x.speak(1);
        x.needs(1, 6);
        x.image(0);
        due("an image is no act and keeps them", x.count(6), 2);
        due("restore", x.restore(0), 1);
        due("acts", x.count(6), 0);
        due("undo", x.undo(), STATE);
        due("DAY", x.count(3), 1);
        due("carried", x.count(8), 1);
        due("needs", x.motion(1), 6);
        dueBreaths(8);
        x.cold(0, 2);
        due("undo what came since", x.undo(), 0);
        dueBreaths(8);
        due("restore, none was kept", x.restore(1), STATE);
        x.cold(0, 2);
        due("restore, none was kept", x.restore(1), STATE);
        due("acts stay", x.count(6), 1);
        dueBreaths(2);
    }

    private void eachImageByItself() {
        fresh();
        due("no HILL", x.image(0), STATE);
        due("no HILL", x.image(1), STATE);
        due("none was kept", x.restore(0), STATE);
        due("none was kept", x.restore(1), STATE);
        read("h1;m1;p1,1;");
        x.image(1);
        due("none was kept of the other", x.restore(0), STATE);
        read("h2;m2;m3;l2,2;d3,3;");
        x.image(0);
        read("h3;m3;");
        due("the one", x.restore(1), 1);
        due("cost", x.count(4), 1);
        due("motions", x.count(1), 1);
        due("members", x.count(2), 1);
        due("mends", x.member(0, 1), 1);
        due("kind", x.kind(0), 1);
        due("the other", x.restore(0), 1);
        due("cost", x.count(4), 2);
        due("motions", x.count(1), 2);
        due("members", x.count(2), 2);
        due("kind", x.kind(1), 3);
        x.cold(0, 20);
        x.speak(1);
        due("what comes then leaves it as it was", x.restore(0), 1);
        dueBreaths(2, 3);
        due("DAY", x.count(3), 0);
        due("rows and tape are no part of it: rows", x.row(0, 0, 4), 4);
        feed("h4;");
        x.restore(1);
        due("rows", x.count(0), 1);
        due("bytes", x.count(7), 3);
    }
}
