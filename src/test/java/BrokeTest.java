/** Promises 16 to 21: reading, back, worths, kinds, fondness, odds. */
public final class BrokeTest {
    private static final Check CHECK = new Check("BrokeTest");

    public static void main(String[] args) {
        readingsAreNumbered();
        readingsGoBack();
        worthsByReadings();
        kindsByReadings();
        fondnessByReadings();
        readingsAreOfWhatIsSentNow();
        oddsByYear();
        oddsInLeastTerms();
        oddsRefused();
        CHECK.end();
    }

    private static void readingsAreNumbered() {
        FosterSons x = Check.with("x22/12/34,s050");
        CHECK.due("reading(2, 9)", x.reading(2, 9, true), FosterSons.UNKNOWN);
        CHECK.due("reading(-1, 0)", x.reading(-1, 0, true), FosterSons.UNKNOWN);
        CHECK.due("reading(0, 2)", x.reading(0, 2, true), FosterSons.OUTSIDE);
        CHECK.due("reading(0, -1)", x.reading(0, -1, true), FosterSons.OUTSIDE);
        for (int r = 0; r < 8; r++) {
            CHECK.due("reading " + r, x.reading(r % 2, 1, true), r);
        }
        CHECK.due("a ninth", x.reading(0, 0, true), FosterSons.FULL);
        CHECK.due("a ninth of no court", x.reading(2, 0, true), FosterSons.UNKNOWN);
        CHECK.due("a ninth of no year", x.reading(0, 2, true), FosterSons.OUTSIDE);
        CHECK.due("eight", x.many(4), 8);
        CHECK.due("no treaty", new FosterSons().reading(0, 0, true), FosterSons.UNKNOWN);
    }

    private static void readingsGoBack() {
        FosterSons x = Check.with("x22/12/34,s050");
        x.reading(0, 0, true);
        x.reading(0, 1, true);
        x.reading(1, 0, false);
        CHECK.due("a wrong one", x.worths(0), 0);
        CHECK.due("back(-1)", x.back(-1), FosterSons.OUTSIDE);
        CHECK.due("back(4)", x.back(4), FosterSons.OUTSIDE);
        CHECK.due("back(0)", x.back(0), 3);
        CHECK.due("back(1)", x.back(1), 2);
        CHECK.due("taken back", x.worths(0), 1023);
        CHECK.due("numbered on", x.reading(1, 1, true), 2);
        CHECK.due("back(3)", x.back(3), 0);
        CHECK.due("back(1) of none", x.back(1), FosterSons.OUTSIDE);
        CHECK.due("back(0) of no treaty", new FosterSons().back(0), 0);
        CHECK.due("back(1) of no treaty", new FosterSons().back(1), FosterSons.OUTSIDE);
    }

    private static void worthsByReadings() {
        FosterSons x = Check.with("x22/55/00,s051,h010,p190");
        x.send(0, 1, 0);
        CHECK.due("no readings", x.worths(0), 1023);
        x.reading(0, 0, false);
        CHECK.due("5 and more", x.worths(0), 0b1111100000);
        CHECK.due("who is not sent", x.worths(1), 1023);
        x.reading(0, 1, true);
        CHECK.due("just 5", x.worths(0), 0b0000100000);
        CHECK.due("by nobody else", x.worths(2), 1023);
        x.back(2);
        x.reading(0, 0, true);
        CHECK.due("below 5", x.worths(0), 0b0000011111);
        CHECK.due("he can't be it alone", x.worths(1), 0);
        CHECK.due("as told", x.ofSon(0, 2), 5);
        x.send(1, 1, 0);
        CHECK.due("the heir's 3", x.worths(0), 0b0000000011);
        CHECK.due("nor the heir alone", x.worths(1), 0);
        x.send(2, 0, 0);
        x.reading(1, 0, false);
        CHECK.due("the page's court", x.worths(2), 0);
        x.tempt(1, 0, 4);
        x.back(2);
        x.reading(1, 0, false);
        CHECK.due("half of it, cut", x.worths(2), 0b1100000000);
        CHECK.due("worths(3)", x.worths(3), FosterSons.UNKNOWN);
        CHECK.due("worths(-1)", x.worths(-1), FosterSons.UNKNOWN);
    }

    private static void kindsByReadings() {
        FosterSons x = Check.with("x21/7/0,s060");
        x.send(0, 1, 0);
        CHECK.due("no readings", x.kinds(0), 7);
        x.reading(0, 0, false);
        CHECK.due("an heir", x.kinds(0), 2);
        x.back(1);
        x.reading(0, 0, true);
        CHECK.due("no heir", x.kinds(0), 5);
        x.tempt(0, 0, 4);
        CHECK.due("a page", x.kinds(0), 4);
        x.tempt(0, 0, 3);
        CHECK.due("of none", x.kinds(0), 0);
        CHECK.due("as told", x.ofSon(0, 0), 0);
        CHECK.due("kinds(1)", x.kinds(1), FosterSons.UNKNOWN);
        CHECK.due("kinds(-1)", x.kinds(-1), FosterSons.UNKNOWN);
    }

    private static void fondnessByReadings() {
        FosterSons x = Check.with("x23/055/000,s080");
        x.send(0, 1, 0);
        CHECK.due("no readings", x.fondness(0), 15);
        x.reading(0, 0, false);
        CHECK.due("not in the first year", x.fondness(0), 15);
        x.reading(0, 2, true);
        CHECK.due("fond by the last", x.fondness(0), 0b1100);
        x.tempt(0, 1, 6);
        x.reading(0, 1, false);
        CHECK.due("not by the second", x.fondness(0), 0b0100);
        x.home(0);
        CHECK.due("at home", x.fondness(0), 0);
        CHECK.due("as told", x.ofSon(0, 3), 0);
        CHECK.due("fondness(1)", x.fondness(1), FosterSons.UNKNOWN);
        CHECK.due("fondness(-1)", x.fondness(-1), FosterSons.UNKNOWN);
    }

    private static void readingsAreOfWhatIsSentNow() {
        FosterSons x = Check.with("x21/4/0,s050");
        x.reading(0, 0, false);
        CHECK.due("not sent", x.worths(0), 0);
        x.send(0, 1, 0);
        CHECK.due("sent", x.worths(0), 0b1111110000);
        x.tempt(0, 0, 9);
        CHECK.due("tempted more", x.worths(0), 0b1000000000);
    }

    private static void oddsByYear() {
        FosterSons x = Check.with("x23/342/000,s040,s050,h010");
        share(x, 0, 1, 1);
        x.send(0, 1, 0);
        share(x, 0, 1, 2);
        share(x, 1, 1, 2);
        x.send(1, 1, 1);
        share(x, 1, 1, 2);
        x.tempt(0, 0, 2);
        share(x, 0, 0, 1);
        x.tempt(0, 1, 7);
        share(x, 1, 1, 2);
        x.tempt(0, 1, 6);
        share(x, 1, 1, 4);
        x.tempt(0, 1, 5);
        share(x, 1, 1, 4);
        share(x, 0, 0, 1);
        share(x, 2, 1, 4);
    }

    private static void oddsInLeastTerms() {
        FosterSons x = Check.with("x21/9/0,s040,s040,s040,p040,s140");
        for (int s = 0; s < 4; s++) {
            x.send(s, 1, 0);
        }
        x.send(4, 0, 0);
        // With the page's 2 the stakes are 14 once, 12 and 10 three times each, 8 once.
        share(x, 0, 1, 8);
        CHECK.due("who is away", x.many(3), 5);
        x.tempt(0, 0, 8);
        share(x, 0, 0, 1);
        x.tempt(0, 0, 0);
        share(x, 0, 0, 1);
        x.home(0);
        x.tempt(0, 0, 9);
        share(x, 0, 3, 4);
    }

    private static void share(FosterSons x, int year, long upper, long lower) {
        CHECK.due("odds(" + year + ", 0)", x.odds(year, 0), upper);
        CHECK.due("odds(" + year + ", 1)", x.odds(year, 1), lower);
    }

    private static void oddsRefused() {
        FosterSons x = Check.with("x21/0/0,s000");
        CHECK.due("year 1", x.odds(1, 0), FosterSons.LOST);
        CHECK.due("year -1", x.odds(-1, 0), FosterSons.LOST);
        CHECK.due("which 2", x.odds(0, 2), FosterSons.LOST);
        CHECK.due("which -1", x.odds(0, -1), FosterSons.LOST);
        CHECK.due("no treaty", new FosterSons().odds(0, 0), FosterSons.LOST);
    }
}
