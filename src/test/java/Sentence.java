import java.lang.annotation.Retention;
import java.lang.annotation.RetentionPolicy;

/** Marks the test of one sentence of the document, told in the document's own words. */
@Retention(RetentionPolicy.RUNTIME)
@interface Sentence {
    /** The promise in whose section the sentence stands; 0 for all that stands ahead of promise 1. */
    int promise() default 0;

    String value();
}
