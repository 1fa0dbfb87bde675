import java.util.Arrays;

/** Edges of promises 2 to 9: ROWS, and signs of TEXTS. */
final class RowEdges extends Bench {
    RowEdges(Due due) {
        super(due);
    }

    void p02_rowsAre0To5() {
        for (int r = 0; r <= 5; r++) {
            due(x.row(r, 1), 1);
        }
        due(x.count(6), 6);
    }

    void p02_anotherRowIsBad() {
        refused(BAD, o -> o.row(-1, 1));
        refused(BAD, o -> o.row(6, 1));
        refused(BAD, o -> o.row(LEAST, 1));
        refused(BAD, o -> o.row(MOST, 1));
    }

    void p02_aRowMayBeEmpty() {
        due(x.row(0, 0), 0);
        due(x.count(6), 1);
        found(x.at(0, 0), BEYOND);
    }

    void p02_aRowMayHave40() {
        due(x.row(0, 40), 40);
        due(x.at(0, 39), 1, 0);
        found(x.at(0, 40), BEYOND);
    }

    void p02_above40IsBad() {
        refused(BAD, o -> o.row(0, 41));
        refused(BAD, o -> o.row(0, MOST));
    }

    void p02_belowNoneIsSize() {
        finds(SIZE, o -> o.row(0, -1));
        finds(SIZE, o -> o.row(0, LEAST));
        finds(SIZE, o -> o.row(2, -1));
    }

    void p02_badIsAheadOfSize() {
        refused(BAD, o -> o.row(6, -1));
        refused(BAD, o -> o.row(-1, -1));
    }

    void p02_aRowThatWasThereIsAllNoughtAnew() {
        int[] full = new int[40];
        Arrays.fill(full, 7);
        lays(0, full);
        due(x.row(0, 40), 40);
        dueRow(0, new int[40]);
    }

    void p02_aRowThatGrowsIsAllNought() {
        lays(0, 1, 2, 3);
        due(x.row(0, 1), 1);
        due(x.row(0, 3), 3);
        dueRow(0, 0, 0, 0);
    }

    void p02_otherRowsStay() {
        lays(0, 1);
        lays(2, 3);
        due(x.row(1, 2), 2);
        dueRow(0, 1);
        dueRow(2, 3);
    }

    void p03_anotherRowIsBad() {
        refused(BAD, o -> o.lay(-1, 0, 1));
        refused(BAD, o -> o.lay(6, 0, 1));
        refused(BAD, o -> o.lay(LEAST, 0, 1));
        refused(BAD, o -> o.lay(MOST, 0, 1));
    }

    void p03_aMissingRowIsNothing() {
        finds(NOTHING, o -> o.lay(2, 0, 1));
        finds(NOTHING, o -> o.lay(5, 0, 1));
    }

    void p03_aPlaceThatThereIsNotIsBeyond() {
        finds(BEYOND, o -> o.lay(0, -1, 1));
        finds(BEYOND, o -> o.lay(0, 4, 1));
        finds(BEYOND, o -> o.lay(1, 0, 1));
        finds(BEYOND, o -> o.lay(3, 40, 1));
        finds(BEYOND, o -> o.lay(0, LEAST, 1));
        finds(BEYOND, o -> o.lay(0, MOST, 1));
    }

    void p03_nothingIsAheadOfBeyond() {
        finds(NOTHING, o -> o.lay(2, -1, 1));
        finds(NOTHING, o -> o.lay(2, 40, 1));
    }

    void p03_theFirstAndTheLastPlace() {
        x.row(5, 40);
        due(x.lay(5, 0, 1), 1, 0);
        due(x.lay(5, 39, 2), 1, 0);
        due(x.lay(5, 0, 3), 1, 1);
        due(x.lay(5, 39, 4), 1, 2);
    }

    void p03_theLeastAndTheMostOfInts() {
        x.row(0, 1);
        due(x.lay(0, 0, LEAST), 1, 0);
        due(x.lay(0, 0, MOST), 1, LEAST);
        due(x.lay(0, 0, NONE), 1, MOST);
        due(x.at(0, 0), 1, NONE);
    }

    void p03_otherPlacesStay() {
        lays(0, 1, 2, 3);
        due(x.lay(0, 1, 9), 1, 2);
        dueRow(0, 1, 9, 3);
    }

    void p04_anotherRowIsBad() {
        refused(BAD, o -> o.at(-1, 0));
        refused(BAD, o -> o.at(6, 0));
        refused(BAD, o -> o.at(LEAST, 0));
        refused(BAD, o -> o.at(MOST, 0));
    }

    void p04_aMissingRowIsNothing() {
        finds(NOTHING, o -> o.at(2, 0));
        finds(NOTHING, o -> o.at(5, 0));
    }

    void p04_aPlaceThatThereIsNotIsBeyond() {
        finds(BEYOND, o -> o.at(0, -1));
        finds(BEYOND, o -> o.at(0, 4));
        finds(BEYOND, o -> o.at(1, 0));
        finds(BEYOND, o -> o.at(3, 40));
        finds(BEYOND, o -> o.at(0, LEAST));
        finds(BEYOND, o -> o.at(0, MOST));
    }

    void p04_nothingIsAheadOfBeyond() {
        finds(NOTHING, o -> o.at(2, -1));
        finds(NOTHING, o -> o.at(2, 40));
    }

    void p04_theFirstAndTheLastPlace() {
        x.row(5, 40);
        x.lay(5, 0, 8);
        x.lay(5, 39, -8);
        due(x.at(5, 0), 1, 8);
        due(x.at(5, 39), 1, -8);
        due(x.at(5, 38), 1, 0);
    }

    void p05_anotherRowIsBad() {
        refused(BAD, o -> o.tear(-1));
        refused(BAD, o -> o.tear(6));
        refused(BAD, o -> o.tear(LEAST));
        refused(BAD, o -> o.tear(MOST));
    }

    void p05_aMissingRowIsNothing() {
        finds(NOTHING, o -> o.tear(2));
        finds(NOTHING, o -> o.tear(5));
    }

    void p05_aTornRowIsMissing() {
        lays(0, 1);
        due(x.tear(0), 1);
        due(x.count(6), 0);
        found(x.at(0, 0), NOTHING);
        found(x.tear(0), NOTHING);
    }

    void p05_anEmptyRowCanBeTorn() {
        x.row(5, 0);
        due(x.tear(5), 1);
        due(x.count(6), 0);
    }

    void p05_otherRowsStay() {
        lays(0, 1);
        lays(1, 2);
        lays(2, 3);
        due(x.tear(1), 1);
        dueRow(0, 1);
        dueRow(2, 3);
    }

    void p05_aTornRowComesAnewAllNought() {
        lays(0, 7, 8);
        x.tear(0);
        due(x.row(0, 2), 2);
        dueRow(0, 0, 0);
    }

    void p06_anotherRowIsBad() {
        refused(BAD, o -> o.copy(-1, 0, 0, 0, 1));
        refused(BAD, o -> o.copy(6, 0, 0, 0, 1));
        refused(BAD, o -> o.copy(0, 0, -1, 0, 1));
        refused(BAD, o -> o.copy(0, 0, 6, 0, 1));
        refused(BAD, o -> o.copy(LEAST, 0, MOST, 0, 0));
    }

    void p06_belowNoneIsSize() {
        finds(SIZE, o -> o.copy(0, 0, 3, 0, -1));
        finds(SIZE, o -> o.copy(0, 0, 3, 0, LEAST));
    }

    void p06_badIsAheadOfSize() {
        refused(BAD, o -> o.copy(6, 0, 0, 0, -1));
        refused(BAD, o -> o.copy(0, 0, -1, 0, -1));
    }

    void p06_sizeIsAheadOfNothing() {
        finds(SIZE, o -> o.copy(2, 0, 0, 0, -1));
        finds(SIZE, o -> o.copy(0, 0, 2, 0, -1));
    }

    void p06_sizeIsAheadOfBeyond() {
        finds(SIZE, o -> o.copy(0, -1, 3, 99, -1));
    }

    void p06_eitherMissingIsNothing() {
        finds(NOTHING, o -> o.copy(2, 0, 0, 0, 1));
        finds(NOTHING, o -> o.copy(0, 0, 2, 0, 1));
        finds(NOTHING, o -> o.copy(2, 0, 4, 0, 1));
        finds(NOTHING, o -> o.copy(2, 0, 0, 0, 0));
        finds(NOTHING, o -> o.copy(0, 0, 2, 0, 0));
    }

    void p06_nothingIsAheadOfBeyond() {
        finds(NOTHING, o -> o.copy(0, 9, 2, 0, 1));
        finds(NOTHING, o -> o.copy(2, 0, 0, 9, 1));
    }

    void p06_notSoManyFromThereIsBeyond() {
        finds(BEYOND, o -> o.copy(0, 0, 3, 0, 5));
        finds(BEYOND, o -> o.copy(0, 3, 3, 0, 2));
        finds(BEYOND, o -> o.copy(0, 4, 3, 0, 1));
        finds(BEYOND, o -> o.copy(1, 0, 3, 0, 1));
        finds(BEYOND, o -> o.copy(0, -1, 3, 0, 1));
        finds(BEYOND, o -> o.copy(0, LEAST, 3, 0, 1));
    }

    void p06_notSoManyToThereIsBeyond() {
        finds(BEYOND, o -> o.copy(3, 0, 0, 0, 5));
        finds(BEYOND, o -> o.copy(3, 0, 0, 3, 2));
        finds(BEYOND, o -> o.copy(3, 0, 0, 4, 1));
        finds(BEYOND, o -> o.copy(3, 0, 1, 0, 1));
        finds(BEYOND, o -> o.copy(3, 0, 0, -1, 1));
        finds(BEYOND, o -> o.copy(3, 0, 0, LEAST, 1));
    }

    void p06_sumsAboveAllIntsAreBeyond() {
        finds(BEYOND, o -> o.copy(0, MOST, 3, 0, 1));
        finds(BEYOND, o -> o.copy(0, 1, 3, 0, MOST));
        finds(BEYOND, o -> o.copy(0, MOST, 3, 0, MOST));
        finds(BEYOND, o -> o.copy(0, 0, 3, MOST, 2));
    }

    void p06_nonePlacesCanBeCopied() {
        lays(0, 1, 2);
        x.row(1, 0);
        due(x.copy(0, 0, 0, 1, 0), 1);
        due(x.copy(0, 2, 1, 0, 0), 1);
        due(x.copy(1, 0, 0, 2, 0), 1);
        due(x.copy(1, 0, 1, 0, 0), 1);
        dueRow(0, 1, 2);
        dueRow(1);
    }

    void p06_fortyPlacesCanBeCopied() {
        int[] full = new int[40];
        for (int i = 0; i < 40; i++) {
            full[i] = i - 20;
        }
        lays(4, full);
        x.row(5, 40);
        due(x.copy(4, 0, 5, 0, 40), 1);
        dueRow(5, full);
    }

    void p06_theLastPlaceCanBeCopied() {
        lays(0, 1, 2, 3);
        lays(1, 7, 8);
        due(x.copy(0, 2, 1, 1, 1), 1);
        dueRow(1, 7, 3);
    }

    void p06_otherPlacesStay() {
        lays(0, 1, 2, 3, 4);
        lays(1, 5, 6, 7, 8);
        due(x.copy(0, 1, 1, 2, 1), 1);
        dueRow(0, 1, 2, 3, 4);
        dueRow(1, 5, 6, 2, 8);
    }

    void p06_toItselfAheadAsIfTakenAhead() {
        lays(0, 1, 2, 3, 4);
        due(x.copy(0, 0, 0, 1, 3), 1);
        dueRow(0, 1, 1, 2, 3);
    }

    void p06_toItselfBackAsIfTakenAhead() {
        lays(0, 1, 2, 3, 4);
        due(x.copy(0, 1, 0, 0, 3), 1);
        dueRow(0, 2, 3, 4, 4);
    }

    void p06_toTheSamePlaces() {
        lays(0, 1, 2, 3);
        due(x.copy(0, 0, 0, 0, 3), 1);
        dueRow(0, 1, 2, 3);
    }

    void p07_anotherRowIsBad() {
        refused(BAD, o -> o.mean(-1));
        refused(BAD, o -> o.mean(6));
        refused(BAD, o -> o.mean(LEAST));
        refused(BAD, o -> o.mean(MOST));
    }

    void p07_aMissingRowIsNothing() {
        finds(NOTHING, o -> o.mean(2));
        finds(NOTHING, o -> o.mean(5));
    }

    void p07_anEmptyRowIsNought() {
        finds(NOUGHT, o -> o.mean(1));
    }

    void p07_oneIntIsItsMean() {
        lays(0, -7);
        due(x.mean(0), 1, -7);
    }

    void p07_itIsCut() {
        lays(0, 1, 2);
        due(x.mean(0), 1, 1);
        lays(0, 0, 0, 2);
        due(x.mean(0), 1, 0);
        lays(0, 2, 3, 3);
        due(x.mean(0), 1, 2);
    }

    void p07_belowNoughtItIsCutTowardsNought() {
        lays(0, -1, -2);
        due(x.mean(0), 1, -1);
        lays(0, 0, -1);
        due(x.mean(0), 1, 0);
        lays(0, -3, -3, -2);
        due(x.mean(0), 1, -2);
    }

    void p07_sumsAboveAllInts() {
        int[] full = new int[40];
        Arrays.fill(full, MOST);
        lays(5, full);
        due(x.mean(5), 1, MOST);
    }

    void p07_sumsBelowAllInts() {
        int[] full = new int[40];
        Arrays.fill(full, LEAST);
        lays(5, full);
        due(x.mean(5), 1, LEAST);
    }

    void p07_placesThatAreGoneDoNotCount() {
        lays(0, 6, 6, 6);
        x.row(0, 1);
        x.lay(0, 0, 4);
        due(x.mean(0), 1, 4);
    }

    void p08_textsAre0To3() {
        for (int t = 0; t <= 3; t++) {
            due(x.text(t, 1), 1);
        }
        due(x.count(7), 4);
    }

    void p08_anotherTextIsBad() {
        refused(BAD, o -> o.text(-1, 1));
        refused(BAD, o -> o.text(4, 1));
        refused(BAD, o -> o.text(LEAST, 1));
        refused(BAD, o -> o.text(MOST, 1));
    }

    void p08_aTextMayBeEmpty() {
        due(x.text(0, 0), 0);
        due(x.count(7), 1);
        found(x.put(0, 0, 1), BEYOND);
    }

    void p08_aTextMayHave80() {
        due(x.text(3, 80), 80);
        due(x.put(3, 79, 1), 1032);
        found(x.put(3, 80, 1), BEYOND);
    }

    void p08_above80IsBad() {
        refused(BAD, o -> o.text(0, 81));
        refused(BAD, o -> o.text(0, MOST));
    }

    void p08_belowNoneIsSize() {
        finds(SIZE, o -> o.text(0, -1));
        finds(SIZE, o -> o.text(0, LEAST));
        finds(SIZE, o -> o.text(2, -1));
    }

    void p08_badIsAheadOfSize() {
        refused(BAD, o -> o.text(4, -1));
        refused(BAD, o -> o.text(-1, -1));
    }

    void p08_aTextThatWasThereIsAllBlanksAnew() {
        write(0, "x".repeat(80));
        due(x.text(0, 80), 80);
        for (int i = 0; i < 80; i++) {
            due(x.put(0, i, 0), 1032);
        }
    }

    void p08_aTextThatGrowsIsAllBlanks() {
        write(0, "xyz");
        due(x.text(0, 1), 1);
        due(x.text(0, 3), 3);
        for (int i = 0; i < 3; i++) {
            due(x.put(0, i, 0), 1032);
        }
    }

    void p08_otherTextsAndRowsStay() {
        write(0, "x");
        write(2, "z");
        lays(1, 7);
        due(x.text(1, 2), 2);
        due(x.put(0, 0, 0), 1000 + 'x');
        due(x.put(2, 0, 0), 1000 + 'z');
        dueRow(1, 7);
    }

    void p09_anotherTextIsBad() {
        refused(BAD, o -> o.put(-1, 0, 1));
        refused(BAD, o -> o.put(4, 0, 1));
        refused(BAD, o -> o.put(LEAST, 0, 1));
        refused(BAD, o -> o.put(MOST, 0, 1));
    }

    void p09_aMissingTextIsNothing() {
        finds(NOTHING, o -> o.put(2, 0, 1));
        findsIn(Bench::bare, NOTHING, o -> o.put(3, 0, 1));
    }

    void p09_aPlaceThatThereIsNotIsBeyond() {
        finds(BEYOND, o -> o.put(1, -1, 1));
        finds(BEYOND, o -> o.put(1, 2, 1));
        finds(BEYOND, o -> o.put(3, 0, 1));
        finds(BEYOND, o -> o.put(0, 76, 1));
        finds(BEYOND, o -> o.put(1, LEAST, 1));
        finds(BEYOND, o -> o.put(1, MOST, 1));
    }

    void p09_nothingIsAheadOfBeyond() {
        finds(NOTHING, o -> o.put(2, -1, 1));
        finds(NOTHING, o -> o.put(2, 80, 1));
    }

    void p09_theFirstAndTheLastPlace() {
        x.text(0, 80);
        due(x.put(0, 0, 65), 1032);
        due(x.put(0, 79, 66), 1032);
        due(x.put(0, 0, 0), 1065);
        due(x.put(0, 79, 0), 1066);
    }

    private void dueByte(int v, int asByte) {
        x.text(0, 1);
        x.put(0, 0, v);
        due(x.put(0, 0, 0), 1000 + asByte);
    }

    void p09_bytesStay() {
        dueByte(0, 0);
        dueByte(127, 127);
        dueByte(-1, -1);
        dueByte(-128, -128);
    }

    void p09_aboveABytesMostItIsCut() {
        dueByte(128, -128);
        dueByte(255, -1);
        dueByte(256, 0);
        dueByte(256 + 'n', 'n');
        dueByte(MOST, -1);
    }

    void p09_belowABytesLeastItIsCut() {
        dueByte(-129, 127);
        dueByte(-256, 0);
        dueByte('n' - 256, 'n');
        dueByte(LEAST, 0);
    }

    void p09_otherPlacesStay() {
        write(0, "abc");
        due(x.put(0, 1, 'z'), 1000 + 'b');
        due(x.put(0, 0, 0), 1000 + 'a');
        due(x.put(0, 2, 0), 1000 + 'c');
    }
}
