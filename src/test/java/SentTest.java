/** Promises 6 to 12: send, home, stake, stakes, tempted, broken, plan. */
public final class SentTest {
    private static final Check CHECK = new Check("SentTest");
    private static final int NONE = FosterSons.NONE;

    public static void main(String[] args) {
        sendAndHome();
        refusalsOfSending();
        stakeByKindAndYear();
        stakesOfACourt();
        temptedIsMoreThan();
        brokenIsFirstYearThenLeastCourt();
        breakRefusals();
        plans();
        planRefusals();
        planFaultsAreInOrder();
        CHECK.end();
    }

    private static void sendAndHome() {
        FosterSons x = Check.with("x33/111/222/333,s051,h162");
        CHECK.due("first", x.send(0, 1, 0), 1);
        CHECK.due("the same", x.send(0, 1, 0), 1);
        CHECK.due("other court", x.send(0, 2, 0), 0);
        CHECK.due("to", x.ofSon(0, 4), 2);
        CHECK.due("other year", x.send(0, 2, 2), 0);
        CHECK.due("from", x.ofSon(0, 5), 2);
        CHECK.due("sent", x.many(3), 1);
        CHECK.due("home", x.home(0), 1);
        CHECK.due("home again", x.home(0), 0);
        CHECK.due("to after", x.ofSon(0, 4), NONE);
        CHECK.due("from after", x.ofSon(0, 5), NONE);
        CHECK.due("sent after", x.many(3), 0);
        CHECK.due("after home", x.send(0, 1, 1), 1);
        CHECK.due("home(2)", x.home(2), FosterSons.UNKNOWN);
        CHECK.due("home(-1)", x.home(-1), FosterSons.UNKNOWN);
    }

    private static void refusalsOfSending() {
        FosterSons x = Check.with("x33/111/222/333,s051,h162");
        CHECK.due("send(2, 0, 9)", x.send(2, 0, 9), FosterSons.UNKNOWN);
        CHECK.due("send(-1, 0, 0)", x.send(-1, 0, 0), FosterSons.UNKNOWN);
        CHECK.due("send(0, 3, 9)", x.send(0, 3, 9), FosterSons.UNKNOWN);
        CHECK.due("send(0, -1, 0)", x.send(0, -1, 0), FosterSons.UNKNOWN);
        CHECK.due("send(0, 0, 3)", x.send(0, 0, 3), FosterSons.OUTSIDE);
        CHECK.due("send(0, 0, -1)", x.send(0, 0, -1), FosterSons.OUTSIDE);
        CHECK.due("send(0, 0, 2)", x.send(0, 0, 2), FosterSons.STATE);
        CHECK.due("send(1, 1, 0)", x.send(1, 1, 0), FosterSons.STATE);
        CHECK.due("nobody", x.many(3), 0);
        x.send(0, 1, 1);
        CHECK.due("to his father", x.send(0, 0, 1), FosterSons.STATE);
        CHECK.due("stays", x.ofSon(0, 4), 1);
    }

    private static String stakesOfSon(FosterSons x, int s) {
        StringBuilder all = new StringBuilder();
        for (int year = 0; year < x.many(2); year++) {
            all.append(x.stake(s, year)).append(' ');
        }
        return all.toString();
    }

    private static void stakeByKindAndYear() {
        FosterSons x = Check.with("x26/000000/000000,s072,h072,p073,s090,p090");
        CHECK.due("not sent", stakesOfSon(x, 0), "-9 -9 -9 -9 -9 -9 ");
        x.send(0, 1, 1);
        x.send(1, 1, 0);
        x.send(2, 1, 0);
        x.send(3, 1, 5);
        x.send(4, 1, 3);
        CHECK.due("son", stakesOfSon(x, 0), "-9 7 5 3 1 0 ");
        CHECK.due("heir", stakesOfSon(x, 1), "9 7 5 3 2 2 ");
        CHECK.due("page", stakesOfSon(x, 2), "3 2 0 0 0 0 ");
        CHECK.due("son who is not fond", stakesOfSon(x, 3), "-9 -9 -9 -9 -9 9 ");
        CHECK.due("page who is not fond", stakesOfSon(x, 4), "-9 -9 -9 4 4 4 ");
        CHECK.due("stake(5, 6)", x.stake(5, 6), FosterSons.UNKNOWN);
        CHECK.due("stake(-1, 0)", x.stake(-1, 0), FosterSons.UNKNOWN);
        CHECK.due("stake(0, 6)", x.stake(0, 6), FosterSons.OUTSIDE);
        CHECK.due("stake(0, -1)", x.stake(0, -1), FosterSons.OUTSIDE);
    }

    private static void stakesOfACourt() {
        FosterSons x = Check.with("x32/00/00/00,s051,h031,p191");
        x.send(0, 1, 0);
        x.send(1, 2, 1);
        x.send(2, 0, 0);
        CHECK.due("stakes(0, 0)", x.stakes(0, 0), 5);
        CHECK.due("stakes(0, 1)", x.stakes(0, 1), 9);
        CHECK.due("stakes(1, 0)", x.stakes(1, 0), 4);
        CHECK.due("stakes(1, 1)", x.stakes(1, 1), 4);
        CHECK.due("stakes(2, 0)", x.stakes(2, 0), 0);
        CHECK.due("stakes(3, 2)", x.stakes(3, 2), FosterSons.UNKNOWN);
        CHECK.due("stakes(-1, 0)", x.stakes(-1, 0), FosterSons.UNKNOWN);
        CHECK.due("stakes(0, 2)", x.stakes(0, 2), FosterSons.OUTSIDE);
        CHECK.due("stakes(0, -1)", x.stakes(0, -1), FosterSons.OUTSIDE);
    }

    private static void temptedIsMoreThan() {
        FosterSons x = Check.with("x42/55/00/10/01,s050");
        x.send(0, 1, 0);
        CHECK.due("as much is not more", x.tempted(0), 4);
        CHECK.due("tempted(1)", x.tempted(1), 8);
        x.tempt(0, 1, 6);
        CHECK.due("one more", x.tempted(1), 9);
        x.send(0, 1, 1);
        CHECK.due("not sent by then", x.tempted(0), 5);
        CHECK.due("tempted(2)", x.tempted(2), FosterSons.OUTSIDE);
        CHECK.due("tempted(-1)", x.tempted(-1), FosterSons.OUTSIDE);
        CHECK.due("no treaty", new FosterSons().tempted(-1), FosterSons.STATE);
    }

    private static void brokenIsFirstYearThenLeastCourt() {
        FosterSons x = Check.with("x33/009/011/010,s090");
        CHECK.due("year", x.broken(0), 1);
        CHECK.due("court", x.broken(1), 1);
        x.tempt(1, 1, 0);
        CHECK.due("court, next", x.broken(1), 2);
        x.tempt(2, 1, 0);
        CHECK.due("year, last", x.broken(0), 2);
        CHECK.due("court, last", x.broken(1), 0);
        x.send(0, 1, 2);
        CHECK.due("court, held", x.broken(1), 1);
        x.tempt(1, 2, 0);
        CHECK.due("never", x.broken(0), NONE);
        CHECK.due("nobody", x.broken(1), NONE);
    }

    private static void breakRefusals() {
        FosterSons x = new FosterSons();
        CHECK.due("broken(2), no treaty", x.broken(2), FosterSons.OUTSIDE);
        CHECK.due("broken(1), no treaty", x.broken(1), FosterSons.STATE);
        Check.take(x, "x21/0/0,s000");
        CHECK.due("broken(2)", x.broken(2), FosterSons.OUTSIDE);
        CHECK.due("broken(-1)", x.broken(-1), FosterSons.OUTSIDE);
    }

    private static void plans() {
        FosterSons x = Check.with("x33/350/042/000,s051,h121,p090");
        x.send(0, 1, 0);
        Check.lay(x, 3, 2, 9, 0, 1, 3, 9);
        CHECK.due("year", x.plan(3, 2, 1, 3, 0), 1);
        CHECK.due("court", x.plan(3, 2, 1, 3, 1), 0);
        CHECK.due("sent", x.plan(3, 2, 1, 3, 2), 2);
        CHECK.due("stakes 0", x.plan(3, 2, 1, 3, 10), 3);
        CHECK.due("stakes 1", x.plan(3, 2, 1, 3, 11), 3);
        CHECK.due("stakes 2", x.plan(3, 2, 1, 3, 12), 0);
        CHECK.due("no court 3", x.plan(3, 2, 1, 3, 13), NONE);
        Check.lay(x, 3, 2, 0, 1, 1);
        CHECK.due("never", x.plan(3, 2, 0, 3, 0), NONE);
        CHECK.due("nobody", x.plan(3, 2, 0, 3, 1), NONE);
        CHECK.due("page adds", x.plan(3, 2, 0, 3, 10), 7);
        Check.lay(x, 3, 2, 3, 3, 3);
        CHECK.due("as if nothing else were sent", x.plan(3, 2, 0, 3, 0), 0);
        CHECK.due("none sent", x.plan(3, 2, 0, 3, 2), 0);
        CHECK.due("none at stake", x.plan(3, 2, 0, 3, 10), 0);
        Check.lay(x, 3, 2, 2, 2, 2);
        CHECK.due("by the last year", x.plan(3, 2, 0, 3, 2), 3);
        CHECK.due("what is sent stays", x.many(3), 1);
        CHECK.due("where he is", x.ofSon(0, 5), 0);
        CHECK.due("at home", x.ofSon(1, 5), NONE);
    }

    private static void planRefusals() {
        FosterSons x = Check.with("x33/350/042/000,s051,h121,p090");
        Check.lay(x, 3, 0, 0, 4, 0, 0);
        CHECK.due("cell above", x.plan(3, 0, 0, 3, 0), FosterSons.OUTSIDE);
        CHECK.due("cell above, no such court", x.plan(3, 0, 0, 3, 13), FosterSons.OUTSIDE);
        x.put(3, 1, -1);
        CHECK.due("cell below", x.plan(3, 0, 0, 3, 0), FosterSons.OUTSIDE);
        x.put(3, 1, 3);
        CHECK.due("cells as told", x.plan(3, 0, 0, 3, 2), 2);
        CHECK.due("too few", x.plan(3, 0, 0, 2, 0), FosterSons.OUTSIDE);
        CHECK.due("too many", x.plan(3, 0, 0, 4, 0), FosterSons.OUTSIDE);
        CHECK.due("fault", x.fault(), 0);
        int[] wrong = {-1, 3, 9, 14, Integer.MAX_VALUE, Integer.MIN_VALUE};
        for (int what : wrong) {
            CHECK.due("plan what " + what, x.plan(3, 0, 0, 3, what), FosterSons.OUTSIDE);
        }
        CHECK.due("plan of sheet 4", x.plan(4, 9, 0, 3, 99), FosterSons.UNKNOWN);
        CHECK.due("plan of sheet -1", x.plan(-1, 0, 0, 3, 0), FosterSons.UNKNOWN);
        CHECK.due("plan lane 3", x.plan(3, 3, 0, 3, 0), FosterSons.OUTSIDE);
        CHECK.due("plan lane -1", x.plan(3, -1, 0, 3, 0), FosterSons.OUTSIDE);
    }

    private static void planFaultsAreInOrder() {
        FosterSons x = new FosterSons();
        Check.lay(x, 1, 1, 0, 0);
        faulty(x, 1, 2, 9, -1, 2);
        faulty(x, 2, 2, 9, -1, 1);
        faulty(x, 1, 1, 9, -1, 4);
        faulty(x, 1, 1, 3, 0, 3);
        faulty(x, 1, 1, -1, 0, 3);
        faulty(x, 1, 1, 1, 2, 3);
        faulty(x, 1, 1, 1, Integer.MAX_VALUE, 3);
        CHECK.due("no treaty", x.plan(1, 1, 2, 0, 0), FosterSons.STATE);
        CHECK.due("its fault", x.fault(), 0);
        faulty(x, 1, 2, 9, -1, 2);
        CHECK.due("refused", x.plan(9, 1, 2, 0, 0), FosterSons.UNKNOWN);
        CHECK.due("its fault", x.fault(), 0);
        Check.take(x, "x21/0/0,s000");
        faulty(x, 1, 1, 2, 1, 3);
        CHECK.due("n is no count", x.plan(1, 1, 2, 0, 0), FosterSons.OUTSIDE);
    }

    private static void faulty(FosterSons x, int k, int lane, int i, int n, int fault) {
        String call = "plan(" + k + ", " + lane + ", " + i + ", " + n + ", 0)";
        CHECK.due(call, x.plan(k, lane, i, n, 0), -10 - fault);
        CHECK.due("fault after " + call, x.fault(), fault);
    }
}
