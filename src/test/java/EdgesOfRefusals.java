import java.util.ArrayList;
import java.util.List;
import java.util.function.Supplier;
import java.util.function.ToIntFunction;

/** The head of the Terms: the order of refusals and findings; what is refused, found, foretold changes nothing. */
final class EdgesOfRefusals {
    private EdgesOfRefusals() {
    }

    static void all() {
        numbersFrom0();
        cutTowards0();
        badAheadOfState();
        stateAheadOfBad();
        badAheadOfFull();
        badAheadOfFindings();
        stateAheadOfFindings();
        theFirstInTime();
        numbersOfFindings();
        refusedChangesNothing();
        foundChangesNothing();
        foretoldChangesNothing();
    }

    private static void numbersFrom0() {
        Due.sentence("Numbers go from 0 on.");
        WeirWords x = Due.with("r0,10;c1;c2;c3;c0;s5,0;h6,3;");
        Due.is("the first cell", x.cell(0, 0), 1);
        Due.is("the last cell", x.cell(3, 0), 0);
        Due.is("none behind it", x.cell(4, 0), Due.BAD);
        Due.is("the first word", x.word(0, 0), 5);
        Due.is("the last word", x.word(1, 0), 6);
        Due.is("none behind it", x.word(2, 0), Due.BAD);
        Due.is("the first row", x.row(0, 0, 1), 1);
        Due.is("its first item", x.set(0, 0, 9), 9);
        Due.is("the first image", x.image(0), 1);
        Due.is("the second and last", x.image(1), 1);
        Due.is("none behind it", x.image(2), Due.BAD);
        x.ask(1, 1);
        Due.is("the first of the trace", x.trace(0), 24);
        Due.is("none ahead of it", x.trace(-1), Due.NONE);
    }

    private static void cutTowards0() {
        Due.sentence("All that is divided is cut towards 0");
        Due.goes("r0,0;c1;c1;c1;c1;s9,0;", 4, 1);
        Due.goes("r0,0;c1;c1;c1;c1;s1,0;", 0, 1);
        WeirWords x = Due.with("r0,10;c0;c0;c0;c0;s1,0;s2,0;");
        Due.is("4 by 3, and what is over", x.share(0, 4), 2);
        Due.is("8 by 3", x.share(1, 4), 2);
    }

    private static void badAheadOfState() {
        Due.sentence("BAD, STATE");
        Due.is("image(2), no river", new WeirWords().image(2), Due.BAD);
        Due.is("image(-1), no river", new WeirWords().image(-1), Due.BAD);
        Due.is("restore(2), none kept", new WeirWords().restore(2), Due.BAD);
        Due.is("restore(-1), none kept", new WeirWords().restore(-1), Due.BAD);
        WeirWords x = withOneGone();
        Due.is("fits, n 0, gone", x.fits(0, 0, 0, 0, 0), Due.BAD);
        Due.is("fits, what 5, gone", x.fits(0, 0, 0, 1, 5), Due.BAD);
        Due.is("fits, row 8, gone", x.fits(0, 8, 0, 1, 0), Due.BAD);
    }

    private static void stateAheadOfBad() {
        Due.sentence("but as told: STATE: no RIVER (ahead of BAD)");
        Due.is("minutes(0)", new WeirWords().minutes(0), Due.STATE);
        Due.is("minutes(25)", new WeirWords().minutes(25), Due.STATE);
        Due.is("rain(16)", new WeirWords().rain(16), Due.STATE);
        Due.is("quarrel(61)", new WeirWords().quarrel(61), Due.STATE);
        Due.is("calm(31, 2)", new WeirWords().calm(31, 2), Due.STATE);
        Due.is("swift(0, -1)", new WeirWords().swift(0, -1), Due.STATE);
        Due.is("drawn(61, 0, 2)", new WeirWords().drawn(61, 0, 2), Due.STATE);
    }

    private static void badAheadOfFull() {
        Due.sentence("BAD .. FULL");
        WeirWords x = new WeirWords();
        Due.feed(x, "c".repeat(110));
        Due.is("feed(256)", x.feed(256), Due.BAD);
        Due.is("feed(-1)", x.feed(-1), Due.BAD);
        Due.is("feed(255)", x.feed(255), Due.FULL);
        WeirWords y = atTheLastMinute();
        Due.is("minutes(25)", y.minutes(25), Due.BAD);
        Due.is("minutes(0)", y.minutes(0), Due.BAD);
        Due.is("minutes(24)", y.minutes(24), Due.FULL);
    }

    private static void badAheadOfFindings() {
        Due.sentence("BAD .. then FINDINGS");
        WeirWords x = Due.with(Due.STILL);
        Due.is("row(8, 0, -1)", x.row(8, 0, -1), Due.BAD);
        Due.is("row(0, 3, -1)", x.row(0, 3, -1), Due.BAD);
        Due.is("set(8, -1, 0)", x.set(8, -1, 0), Due.BAD);
        Due.is("copy(0, 0, 8, 0, 0), 0 missing", x.copy(0, 0, 8, 0, 0), Due.BAD);
        Due.is("copy(-1, 0, 0, 0, 0), 0 missing", x.copy(-1, 0, 0, 0, 0), Due.BAD);
        Due.is("fits(0, 0, 0, 13, 0), 0 missing", x.fits(0, 0, 0, 13, 0), Due.BAD);
        Due.is("fits(0, 0, 0, 1, -1), 0 missing", x.fits(0, 0, 0, 1, -1), Due.BAD);
        Due.is("fits(1, 0, 0, 1, 0), 0 missing", x.fits(1, 0, 0, 1, 0), Due.BAD);
        Due.is("as(1, 5)", x.as(1, 5), Due.BAD);
        Due.is("as(0, 6)", x.as(0, 6), Due.BAD);
    }

    private static void stateAheadOfFindings() {
        Due.sentence("STATE .. then FINDINGS");
        WeirWords x = withOneGone();
        Due.is("fits, 7 missing", x.fits(0, 7, 0, 1, 0), Due.STATE);
        Due.is("fits, no place", x.fits(0, 0, -1, 1, 0), Due.STATE);
        Due.is("fits, one not gone", x.fits(1, 7, 0, 1, 0), Due.NULL);
    }

    private static void theFirstInTime() {
        Due.sentence("FINDINGS, of several the first in time");
        WeirWords x = Due.with(Due.STILL);
        x.row(0, 0, 2);
        x.row(1, 1, 2);
        Due.is("set: NULL, PLACE", x.set(7, -1, 0), Due.NULL);
        Due.is("copy: NULL of a, PLACE", x.copy(7, -1, 0, 0, 1), Due.NULL);
        Due.is("copy: NULL of b, PLACE", x.copy(0, 0, 7, 0, -1), Due.NULL);
        Due.is("copy: NULL of b, PLACE of a", x.copy(0, 9, 7, 0, 1), Due.NULL);
        Due.is("copy: STORE, PLACE i", x.copy(0, -1, 1, 0, 1), Due.STORE);
        Due.is("copy: STORE, PLACE j", x.copy(0, 0, 1, 3, 1), Due.STORE);
        Due.is("copy: STORE, PLACE n", x.copy(0, 0, 1, 0, -1), Due.STORE);
        Due.is("fits: NULL, PLACE", x.fits(0, 7, -1, 1, 0), Due.NULL);
        // What a row was when it was dropped does not count.
        x.drop(1);
        Due.is("copy: NULL of one of another lane", x.copy(0, 0, 1, 0, 1), Due.NULL);
    }

    private static void numbersOfFindings() {
        Due.sentence("-1000010 less 1 NULL, 2 PLACE, 3 KIND, 4 SIZE, 5 STORE");
        WeirWords x = Due.with(Due.STILL);
        x.row(0, 0, 2);
        x.row(1, 1, 2);
        Due.is("NULL", x.drop(7), -1000011);
        Due.is("PLACE", x.set(0, 2, 0), -1000012);
        Due.is("KIND", x.as(0, 4), -1000013);
        Due.is("SIZE", x.row(0, 0, -1), -1000014);
        Due.is("STORE", x.copy(0, 0, 1, 0, 1), -1000015);
        Due.is("NONE", WeirWords.NONE, -1000000);
        Due.is("BAD", WeirWords.BAD, -1000001);
        Due.is("STATE", WeirWords.STATE, -1000002);
        Due.is("FULL", WeirWords.FULL, -1000003);
    }

    private static WeirWords withOneGone() {
        WeirWords x = Due.with("r0,10;c0;c0;c0;c1;s9,3;s9,0;");
        Due.fill(x, 0, 0, 0);
        x.minutes(1);
        return x;
    }

    private static WeirWords atTheLastMinute() {
        WeirWords x = Due.with("r0,0;c1;c0;c0;c0;s9,0;");
        for (int i = 0; i < 416; i++) {
            x.minutes(24);
        }
        x.minutes(14);
        return x;
    }

    /** Word 1 is gone; three acts; rows of each lane; an image; a trace; a fault; a text begun; a finding. */
    private static WeirWords amid() {
        WeirWords x = new WeirWords();
        Due.read(x, "r16");
        Due.read(x, Due.MIXED);
        Due.fill(x, 0, 3, 1, 4);
        x.row(1, 1, 2);
        x.set(1, 1, 5);
        x.row(2, 0, 1);
        x.image(0);
        x.minutes(2);
        x.speed(0, 2);
        x.ask(2, 0);
        Due.feed(x, "r1,2;");
        x.drop(7);
        return x;
    }

    private static WeirWords bare() {
        WeirWords x = new WeirWords();
        Due.read(x, "c");
        Due.fill(x, 0, 3, 1, 4);
        Due.feed(x, "r1,2;");
        x.drop(7);
        return x;
    }

    private static WeirWords full() {
        WeirWords x = amid();
        Due.feed(x, "z".repeat(105));
        return x;
    }

    /** All that can be seen of an object but status(); what it looks at is changed by that. */
    private static List<Integer> seen(WeirWords x) {
        List<Integer> all = new ArrayList<>();
        all.add(x.fault());
        for (int i = 0; i < 7; i++) {
            all.add(x.trace(i));
        }
        river(x, all);
        for (int word = 0; word < 5; word++) {
            all.add(x.kind(word));
        }
        for (int acts = 0; acts < 4; acts++) {
            all.add(x.undo());
            river(x, all);
        }
        for (int k = 0; k < 2; k++) {
            all.add(x.restore(k));
            river(x, all);
        }
        Due.feed(x, "c0;c0;c0;c0;c0;c0;s9,0;");
        all.add(x.river());
        all.add(x.fault());
        river(x, all);
        for (int row = 0; row < 3; row++) {
            for (int i = 0; i < 3; i++) {
                all.add(x.fits(0, row, i, 1, 1));
                all.add(x.set(row, i, 70000));
            }
        }
        for (int row = 0; row < 8; row++) {
            all.add(x.drop(row));
        }
        return all;
    }

    private static void river(WeirWords x, List<Integer> all) {
        for (int what = 0; what <= 9; what++) {
            all.add(x.count(what));
        }
        for (int word = 0; word < 5; word++) {
            all.add(x.word(word, 0));
            all.add(x.word(word, 3));
        }
        for (int cell = 0; cell < 6; cell++) {
            all.add(x.cell(cell, 0));
        }
    }

    /** Each call on an object of its own: its answer, then all that is seen, beside a twin that was not called. */
    @SafeVarargs
    private static void changesNothing(Supplier<WeirWords> made, int due, int status, ToIntFunction<WeirWords>... calls) {
        for (int i = 0; i < calls.length; i++) {
            WeirWords called = made.get();
            Due.is("call " + i, calls[i].applyAsInt(called), due);
            Due.is("status() behind call " + i, called.status(), status);
            sameAsTwin("call " + i, called, made.get());
        }
    }

    private static void sameAsTwin(String call, WeirWords called, WeirWords twin) {
        List<Integer> got = seen(called);
        List<Integer> want = seen(twin);
        Due.is(call + ": how much is seen", got.size(), want.size());
        for (int i = 0; i < Math.min(got.size(), want.size()); i++) {
            Due.is(call + ": thing " + i + " that is seen behind it", got.get(i), want.get(i));
        }
    }

    private static void refusedChangesNothing() {
        Due.sentence("What is refused .. changes nothing: BAD, of a row");
        changesNothing(EdgesOfRefusals::amid, Due.BAD, 1,
            x -> x.row(8, 0, 1), x -> x.row(0, 3, 1), x -> x.row(0, 0, 41), x -> x.set(8, 0, 1), x -> x.set(-1, 0, 1),
            x -> x.copy(0, 0, 8, 0, 1), x -> x.copy(8, 0, 0, 0, 1), x -> x.drop(8), x -> x.drop(-1),
            x -> x.fits(5, 0, 0, 1, 0), x -> x.fits(0, 8, 0, 1, 0), x -> x.fits(0, 0, 0, 13, 0),
            x -> x.fits(0, 0, 0, 1, 5));
        Due.sentence("What is refused .. changes nothing: BAD, of a river");
        changesNothing(EdgesOfRefusals::amid, Due.BAD, 1,
            x -> x.feed(256), x -> x.minutes(0), x -> x.minutes(25), x -> x.say(5, 1, 0), x -> x.say(0, 0, 0),
            x -> x.say(0, 61, 0), x -> x.say(0, 1, 6), x -> x.speed(6, 1), x -> x.speed(0, 4), x -> x.rain(16),
            x -> x.word(5, 0), x -> x.word(0, 4), x -> x.cell(6, 0), x -> x.cell(0, 3), x -> x.image(2),
            x -> x.restore(2), x -> x.count(10));
        Due.sentence("What is refused .. changes nothing: BAD, of what is foretold, asked");
        changesNothing(EdgesOfRefusals::amid, Due.BAD, 1,
            x -> x.ahead(5, 0, 0), x -> x.ahead(0, 61, 0), x -> x.quarrel(61), x -> x.over(5), x -> x.calm(31, 0),
            x -> x.calm(1, 2), x -> x.swift(31, 0), x -> x.swift(1, 2), x -> x.stir(5, 0, 1), x -> x.stir(0, 6, 1),
            x -> x.stir(0, 0, 31), x -> x.share(5, 1), x -> x.share(0, 1000), x -> x.chance(5, 1, 5, 0),
            x -> x.chance(0, 9, 5, 0), x -> x.chance(0, 1, 11, 0), x -> x.drawn(61, 1, 0), x -> x.drawn(1, 1000000, 0),
            x -> x.drawn(1, 1, 2), x -> x.kind(5), x -> x.as(5, 0), x -> x.as(0, 6), x -> x.ask(5, 0),
            x -> x.ask(0, 2));
        Due.sentence("What is refused .. changes nothing: STATE");
        changesNothing(EdgesOfRefusals::bare, Due.STATE, 1,
            x -> x.minutes(1), x -> x.rain(1), x -> x.undo(), x -> x.quarrel(0), x -> x.kept(), x -> x.calm(1, 0),
            x -> x.swift(1, 0), x -> x.drawn(1, 1, 0), x -> x.image(0), x -> x.restore(0));
        changesNothing(EdgesOfRefusals::amid, Due.STATE, 1, x -> x.restore(1), x -> x.fits(1, 0, 0, 1, 0));
        Due.sentence("What is refused .. changes nothing: BAD, of no river");
        changesNothing(EdgesOfRefusals::bare, Due.BAD, 1,
            x -> x.say(0, 1, 0), x -> x.speed(0, 1), x -> x.word(0, 0), x -> x.cell(0, 0), x -> x.ahead(0, 0, 0),
            x -> x.over(0), x -> x.stir(0, 0, 1), x -> x.share(0, 1), x -> x.fits(0, 0, 0, 1, 0),
            x -> x.chance(0, 0, 0, 0), x -> x.kind(0), x -> x.as(0, 0), x -> x.ask(0, 0));
        Due.sentence("What is refused .. changes nothing: FULL");
        changesNothing(EdgesOfRefusals::full, Due.FULL, 1, x -> x.feed('r'));
        WeirWords y = atTheLastMinute();
        Due.is("minutes(2)", y.minutes(2), Due.FULL);
        Due.is("minute", y.count(3), 9998);
        Due.is("acts", y.count(8), 24);
        Due.is("status()", y.status(), 0);
        Due.is("undo()", y.undo(), 23);
        Due.is("minute", y.count(3), 9997);
        Due.sentence("What is refused .. changes nothing: NONE of the trace");
        changesNothing(EdgesOfRefusals::amid, Due.NONE, 1, x -> x.trace(-1), x -> x.trace(16));
    }

    private static void foundChangesNothing() {
        Due.sentence("What is .. found, changes nothing but status()");
        changesNothing(EdgesOfRefusals::amid, Due.NULL, 1,
            x -> x.set(7, 0, 1), x -> x.copy(0, 0, 7, 0, 1), x -> x.copy(7, 0, 0, 0, 1), x -> x.drop(7),
            x -> x.fits(0, 7, 0, 1, 0));
        changesNothing(EdgesOfRefusals::amid, Due.PLACE, 2,
            x -> x.set(0, 3, 9), x -> x.set(0, -1, 9), x -> x.copy(0, 0, 0, 1, 3), x -> x.copy(0, 1, 0, 0, 3),
            x -> x.copy(0, 0, 0, 0, -1), x -> x.fits(0, 0, 3, 1, 0), x -> x.fits(0, 0, 0, 4, 2));
        changesNothing(EdgesOfRefusals::amid, Due.KIND, 3, x -> x.as(0, 2), x -> x.as(1, 5));
        changesNothing(EdgesOfRefusals::amid, Due.SIZE, 4, x -> x.row(0, 1, -1), x -> x.row(7, 0, -1));
        changesNothing(EdgesOfRefusals::amid, Due.STORE, 5, x -> x.copy(0, 0, 1, 0, 1), x -> x.copy(1, 0, 2, 0, 1));
    }

    private static void foretoldChangesNothing() {
        Due.sentence("FORETOLD (nothing changes)");
        WeirWords x = amid();
        for (int what = 0; what <= 1; what++) {
            x.ahead(0, 60, what);
            x.calm(30, what);
            x.swift(30, what);
            x.chance(0, 8, 5, what);
            x.drawn(60, 999999, what);
        }
        x.quarrel(60);
        x.over(0);
        x.kept();
        x.stir(0, 3, 30);
        x.share(0, 999);
        Due.is("status()", x.status(), 1);
        for (int what = 0; what <= 4; what++) {
            x.fits(0, 0, 0, 3, what);
        }
        Due.is("status()", x.status(), 0);
        sameAsTwin("all that is foretold", x, amid());
        WeirWords y = Due.with("r0,10;c1;c0;c1;c0;h60,0;s9,1;");
        y.image(0);
        y.minutes(1);
        y.swift(30, 0);
        y.calm(30, 0);
        y.stir(0, 1, 30);
        y.drawn(60, 1, 0);
        WeirWords twin = Due.with("r0,10;c1;c0;c1;c0;h60,0;s9,1;");
        twin.image(0);
        twin.minutes(1);
        sameAsTwin("all that is searched for", y, twin);
    }
}
