/** What was done with a card, to be done again with as many cards as are wanted. */
interface History {
    void doneWith(CountedCard card);
}
